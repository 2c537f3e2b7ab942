import java.util.ArrayList;
import java.util.List;

/**
 * Asks a call of a vault that given calls have made and, where the call is refused, whether all
 * that can be seen of that vault is as it was. Each look is at a vault of its own, made by the same
 * calls: so no look disturbs another one, and no object gets more than its 512 calls.
 */
final class Edges {
    /** Calls that bring a new vault into the state that an edge needs. */
    interface Calls {
        void on(WriteOnceVault x);
    }

    /** A call whose answer is a number. */
    interface Number {
        long of(WriteOnceVault x);
    }

    /** A call whose answer is yes or no. */
    interface Truth {
        boolean of(WriteOnceVault x);
    }

    private static final int LOST = -9;
    /** PATH(0, LEAF_UNDER[c]) has c digests. */
    private static final int[] LEAF_UNDER = {0, 1, 2, 4, 8, 16, 32, 40};

    private final Due due;

    Edges(Due due) {
        this.due = due;
    }

    static WriteOnceVault made(Calls calls) {
        WriteOnceVault x = new WriteOnceVault();
        calls.on(x);
        return x;
    }

    static Calls then(Calls first, Calls second) {
        return x -> {
            first.on(x);
            second.on(x);
        };
    }

    /** What a refused call must leave as it is, besides the archive: fed words and a failure ahead. */
    static void feedAndCut(WriteOnceVault x) {
        feed(x, 3);
        x.cut(50);
    }

    /** Feeds 1, 2, .., which is what seen() looks for. */
    static void feed(WriteOnceVault x, int count) {
        for (int w = 1; w <= count; w++) {
            x.feed(w);
        }
    }

    static List<Integer> upTo(int count) {
        List<Integer> row = new ArrayList<>();
        for (int w = 1; w <= count; w++) {
            row.add(w);
        }
        return row;
    }

    void answers(String sentence, Calls before, Number call, long want) {
        due.is(sentence, want, call.of(made(before)));
    }

    void answers(String sentence, Calls before, Truth call, boolean want) {
        due.is(sentence, want, call.of(made(before)));
    }

    /** The call answers what is due and changes nothing. */
    void refused(String sentence, Calls before, Number call, long want) {
        answers(sentence, before, call, want);
        same(sentence + " (changes nothing)", before, then(before, call::of));
    }

    /** The call answers no and changes nothing. */
    void refused(String sentence, Calls before, Truth call) {
        answers(sentence, before, call, false);
        same(sentence + " (changes nothing)", before, then(before, call::of));
    }

    /** Both rows of calls lead to vaults of which the same can be seen. */
    void same(String sentence, Calls one, Calls other) {
        List<String> want = seen(one);
        List<String> got = seen(other);
        for (int n = 0; n < want.size() || n < got.size(); n++) {
            String wanted = n < want.size() ? want.get(n) : "nothing";
            String found = n < got.size() ? got.get(n) : "nothing";
            if (!wanted.equals(found)) {
                due.yes(sentence + ": seen is " + found + ", due is " + wanted, false);
                return;
            }
        }
        due.yes(sentence, true);
    }

    static List<String> seen(Calls calls) {
        List<String> lines = new ArrayList<>();
        lookAtWords(lines, made(calls));
        lookAtObjects(lines, made(calls));
        WriteOnceVault back = made(calls);
        turnPowerOver(lines, back);
        lookAtWords(lines, back);
        back = made(calls);
        turnPowerOver(lines, back);
        lookAtObjects(lines, back);
        lookAtFedWords(lines, calls);
        lines.add("words before the power fails: " + wordsLeft(made(calls)));
        return lines;
    }

    private static void lookAtWords(List<String> lines, WriteOnceVault x) {
        for (int at = 0; at < 292; at++) {
            lines.add("word " + at + " = " + x.word(at));
        }
    }

    private static void lookAtObjects(List<String> lines, WriteOnceVault x) {
        lines.add("clock " + x.tick(0));
        int records = x.records();
        lines.add("records " + records);
        lines.add("audit " + x.audit(0, 0));
        lines.add("root " + x.root(records));
        for (int id = 1; id <= 12; id++) {
            for (int what = 0; what < 3; what++) {
                lines.add("look " + id + ", " + what + " = " + x.look(id, what));
            }
            for (int j = 0; j < 2; j++) {
                lines.add("get " + id + ", " + j + " = " + x.get(id, j));
            }
        }
    }

    private static void turnPowerOver(List<String> lines, WriteOnceVault x) {
        lines.add("power off " + x.power(false));
        lines.add("power on " + x.power(true));
    }

    private static void lookAtFedWords(List<String> lines, Calls calls) {
        int fed = fedWords(made(calls));
        lines.add("fed words " + fed);
        if (1 <= fed && fed <= 7) {
            int n = LEAF_UNDER[fed];
            boolean kept = made(calls).included(0, n, Model.rise(upTo(fed), 0, n));
            lines.add("they are 1, 2, ..: " + kept);
        }
    }

    static int fedWords(WriteOnceVault x) {
        for (int room = 0; room < 12; room++) {
            if (!x.feed(0)) {
                return 12 - room;
            }
        }
        return 0;
    }

    /** How many words requests can still write; -1 if no failure is ahead. */
    static int wordsLeft(WriteOnceVault x) {
        x.power(true);
        x.tick(1);
        for (int puts = 0; puts <= 50; puts++) {
            int id = puts % 12 + 1;
            if (id == 1) {
                empty(x);
            }
            if (x.put(-1, -1, 5, 1000000) == LOST) {
                return 8 * puts + wordsOfPut(x, id);
            }
        }
        return -1;
    }

    private static void empty(WriteOnceVault x) {
        x.power(false);
        x.alter(0, 0);
        x.power(true);
    }

    private static int wordsOfPut(WriteOnceVault x, int id) {
        int written = x.word(279 + id) == 0 ? 0 : 1;
        for (int j = 0; j < 7; j++) {
            written += x.word(7 * (id - 1) + j) == 0 ? 0 : 1;
        }
        return written;
    }

    /** One request by the number of its kind; a put has the words 7 and 8, and the key 9. */
    static int request(WriteOnceVault x, int kind, int id, int value) {
        switch (kind) {
            case 1: return x.put(7, 8, 9, value);
            case 2: return x.extend(id, value);
            case 3: return x.hold(id, value, true);
            case 4: return x.hold(id, value, false);
            case 5: return x.delete(id);
            default: return x.shred(id);
        }
    }

    /** Extends object 1, which must be LIVE, until there are so many records. */
    static void fillTo(WriteOnceVault x, int records) {
        int date = x.look(1, 1);
        for (int r = x.records(); r < records; r++) {
            date++;
            x.extend(1, date);
        }
    }

    /** Puts a record with a CHECK into the image; the power must be off. */
    static void forge(WriteOnceVault x, int r, int[] six, int check) {
        for (int j = 0; j < 6; j++) {
            x.alter(7 * r + j, six[j]);
        }
        x.alter(7 * r + 6, check);
    }

    static int leaf(int[] six) {
        return Model.leafOf(six[0], six[1], six[2], six[3], six[4], six[5]);
    }
}
