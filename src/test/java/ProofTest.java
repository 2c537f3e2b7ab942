import java.util.ArrayList;
import java.util.List;

/** Promises 14 to 16: feed, included, extended. */
public final class ProofTest {
    private static final int[] ODD = {-1, 41, Integer.MAX_VALUE, Integer.MIN_VALUE};

    /** Renewed for each row of proofs: an object is used for at most 512 calls. */
    private WriteOnceVault vault = new WriteOnceVault();
    private final Model model = new Model();
    private final Due due;

    private ProofTest(Due due) {
        this.due = due;
    }

    public static void main(String[] args) {
        Due due = new Due("ProofTest");
        ProofTest test = new ProofTest(due);
        test.fill();
        feeds(due);
        test.everyPath();
        test.everyBridge();
        test.wrongPlaces();
        test.madeUpWords();
        test.powerDoesNotMatter();
        due.end();
    }

    /** Forty records in the model alone: the proofs look at the fed words only. */
    private void fill() {
        for (int n = 0; n < 40; n++) {
            if (n < 12) {
                model.request(1, 0, 50, n, 2 * n, 3 * n);
            } else {
                model.request(2, n % 12 + 1, 50 + n, 0, 0, 0);
            }
        }
    }

    private static void feeds(Due due) {
        WriteOnceVault x = new WriteOnceVault();
        for (int n = 1; n <= 12; n++) {
            due.yes("14: word " + n, x.feed(-n));
        }
        due.no("14: a thirteenth", x.feed(1));
        due.no("14: a fourteenth", x.feed(0));
        due.no("14: too many for any proof", x.included(0, 1, -1));
        due.yes("14: none are left", x.feed(3));
        due.yes("14: only the new one counts", x.included(0, 1, 3));
        x.power(false);
        for (int n = 1; n <= 12; n++) {
            due.yes("14: off, word " + n, x.feed(n));
        }
        due.no("14: off, a thirteenth", x.feed(1));
        x.power(true);
        due.no("14: they outlast the power", x.feed(1));
        due.no("14: too many", x.extended(1, 1, 0, 0));
        due.yes("14: none are left", x.extended(1, 1, 0, 0));
    }

    private void feed(List<Integer> words) {
        for (int w : words) {
            vault.feed(w);
        }
    }

    private boolean included(List<Integer> words, int i, int n, int root) {
        feed(words);
        return vault.included(i, n, root);
    }

    private boolean extended(List<Integer> words, int m, int n, int early, int late) {
        feed(words);
        return vault.extended(m, n, early, late);
    }

    private static List<Integer> changed(List<Integer> words, int at) {
        List<Integer> row = new ArrayList<>(words);
        row.set(at, row.get(at) ^ 64);
        return row;
    }

    private static List<Integer> longer(List<Integer> words) {
        List<Integer> row = new ArrayList<>(words);
        row.add(7);
        return row;
    }

    private static List<Integer> shorter(List<Integer> words) {
        return words.subList(0, words.size() - 1);
    }

    private void everyPath() {
        for (int n = 1; n <= 40; n++) {
            int root = model.tree(0, n);
            for (int i = 0; i < n; i++) {
                vault = new WriteOnceVault();
                String call = "15: " + i + " of " + n;
                List<Integer> row = model.pathRow(0, i, n);
                due.yes(call, included(row, i, n, root));
                due.no(call + ", the words are gone", vault.included(i, n, root));
                due.no(call + ", another root", included(row, i, n, root + 1));
                due.no(call + ", a word more", included(longer(row), i, n, root));
                due.no(call + ", a word less", included(shorter(row), i, n, root));
                for (int k = 0; k < row.size(); k++) {
                    due.no(call + ", word " + k + " changed", included(changed(row, k), i, n, root));
                }
                if (n > 1) {
                    due.no(call + ", another place", included(row, (i + 1) % n, n, root));
                }
            }
        }
    }

    private void everyBridge() {
        for (int n = 1; n <= 40; n++) {
            int late = model.tree(0, n);
            for (int m = 1; m <= n; m++) {
                vault = new WriteOnceVault();
                String call = "16: " + m + " of " + n;
                int early = model.tree(0, m);
                List<Integer> row = model.bridgeRow(0, m, n, false);
                due.yes(call, extended(row, m, n, early, late));
                due.is(call + ", the words are gone", m == n, vault.extended(m, n, early, late));
                due.no(call + ", another early root", extended(row, m, n, early + 1, late));
                due.no(call + ", another late root", extended(row, m, n, early, late + 1));
                due.no(call + ", a word more", extended(longer(row), m, n, early, late));
                for (int k = 0; k < row.size(); k++) {
                    due.no(call + ", word " + k + " changed", extended(changed(row, k), m, n, early, late));
                }
                if (m < n) {
                    due.no(call + ", a word less", extended(shorter(row), m, n, early, late));
                }
            }
        }
    }

    private void wrongPlaces() {
        vault = new WriteOnceVault();
        List<Integer> one = List.of(5);
        for (int v : ODD) {
            due.no("15: place " + v, included(one, v, 3, 5));
            due.no("15: of " + v, included(one, 0, v, 5));
            due.no("15: both " + v, included(one, v, v, 5));
            due.no("16: m " + v, extended(one, v, 3, 5, 5));
            due.no("16: n " + v, extended(one, 1, v, 5, 5));
            due.no("16: both " + v, vault.extended(v, v, 5, 5));
            due.yes("15: wrong places take the words, too", included(one, 0, 1, 5));
        }
        due.no("15: place n", included(one, 1, 1, 5));
        due.no("15: of 0", included(one, 0, 0, 5));
        due.no("15: no words", vault.included(0, 1, 0));
        due.no("16: m = 0", extended(one, 0, 3, 5, 5));
        due.no("16: none of none", vault.extended(0, 0, 5, 5));
        due.no("16: m > n", vault.extended(4, 3, 5, 5));
        due.yes("16: forty of forty", vault.extended(40, 40, 5, 5));
        due.no("16: forty of forty, two roots", vault.extended(40, 40, 5, 6));
        due.no("15: forty-one", included(List.of(1, 2, 3, 4, 5, 6, 7), 0, 41, Model.rise(List.of(1, 2, 3, 4, 5, 6, 7), 0, 40)));
    }

    /** The words need not come from any archive: only what they make counts. */
    private void madeUpWords() {
        vault = new WriteOnceVault();
        List<Integer> words = List.of(9, -8, 7, -6, 5, -4, 3);
        due.yes("15: made up, left", included(words, 0, 40, Model.rise(words, 0, 40)));
        due.yes("15: made up, right", included(words.subList(0, 5), 39, 40, Model.rise(words.subList(0, 5), 39, 40)));
        due.yes("15: two", included(List.of(1, 2), 0, 2, Model.node(1, 2)));
        due.yes("15: two, right", included(List.of(1, 2), 1, 2, Model.node(2, 1)));
        due.yes("16: early counts as it is", extended(List.of(2), 1, 2, 77, Model.node(77, 2)));
        due.yes("16: right", extended(List.of(1, 2, 3), 3, 4, Model.node(3, 1), Model.node(3, Model.node(1, 2))));
        due.no("16: right, early is wrong", extended(List.of(1, 2, 3), 3, 4, 0, Model.node(3, Model.node(1, 2))));
    }

    private void powerDoesNotMatter() {
        vault.power(false);
        due.yes("15: off", included(List.of(1, 2), 0, 2, Model.node(1, 2)));
        due.no("15: off, wrong", included(List.of(1, 2), 0, 2, 0));
        due.yes("16: off", extended(List.of(2), 1, 2, 77, Model.node(77, 2)));
        vault.feed(4);
        vault.power(true);
        due.yes("15: fed before the power came", vault.included(0, 1, 4));
        due.is("15: nothing else changed", 0, vault.records());
    }
}
