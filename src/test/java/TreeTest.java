import java.util.List;

/** Promises 11 to 13: root, path, bridge. */
public final class TreeTest {
    private static final long NONE = 1L << 40;

    private final WriteOnceVault vault = new WriteOnceVault();
    private final Model model = new Model();

    public static void main(String[] args) {
        Due due = new Due("TreeTest");
        filled().roots(due);
        filled().paths(due);
        filled().bridges(due);
        filled().wrongInputs(due);
        known(due);
        few(due);
        off(due);
        due.end();
    }

    private static TreeTest filled() {
        TreeTest test = new TreeTest();
        test.fill();
        return test;
    }

    /** Forty records, all different, in the class and in the model. */
    private void fill() {
        for (int n = 0; n < 12; n++) {
            vault.put(n, -n, 100 + n, 50);
            model.request(1, 0, 50, n, -n, 100 + n);
        }
        for (int n = 12; n < 40; n++) {
            vault.tick(1);
            model.tick(1);
            vault.extend(n % 12 + 1, 50 + n);
            model.request(2, n % 12 + 1, 50 + n, 0, 0, 0);
        }
    }

    private void roots(Due due) {
        due.is("11: none", 0, vault.root(0));
        for (int n = 1; n <= 40; n++) {
            due.is("11: of " + n, model.tree(0, n), vault.root(n));
        }
        for (int n : new int[] {-1, 41, Integer.MAX_VALUE, Integer.MIN_VALUE}) {
            due.is("11: of " + n, NONE, vault.root(n));
        }
    }

    private void paths(Due due) {
        for (int n = 1; n <= 40; n++) {
            for (int i = 0; i < n; i++) {
                row(due, "12: " + i + " of " + n, model.pathRow(0, i, n), i, n, true);
            }
        }
    }

    private void bridges(Due due) {
        for (int n = 1; n <= 40; n++) {
            for (int m = 1; m <= n; m++) {
                row(due, "13: " + m + " of " + n, model.bridgeRow(0, m, n, false), m, n, false);
            }
            due.is("13: all of " + n, NONE, vault.bridge(n, n, 0));
        }
    }

    /** Each row has a vault of its own: an object is used for at most 512 calls. */
    private void row(Due due, String call, List<Integer> row, int i, int n, boolean path) {
        WriteOnceVault x = filled().vault;
        for (int k = -1; k <= 13; k++) {
            long want = k < 0 || k >= row.size() ? NONE : row.get(k);
            due.is(call + ", " + k, want, path ? x.path(i, n, k) : x.bridge(i, n, k));
        }
    }

    private void wrongInputs(Due due) {
        int[] odd = {-1, 41, 42, Integer.MAX_VALUE, Integer.MIN_VALUE};
        for (int v : odd) {
            due.is("12: n " + v, NONE, vault.path(0, v, 0));
            due.is("12: i " + v, NONE, vault.path(v, 40, 0));
            due.is("12: both " + v, NONE, vault.path(v, v, 0));
            due.is("12: k " + v, NONE, vault.path(0, 40, v));
            due.is("13: n " + v, NONE, vault.bridge(1, v, 0));
            due.is("13: m " + v, NONE, vault.bridge(v, 40, 0));
            due.is("13: both " + v, NONE, vault.bridge(v, v, 0));
            due.is("13: k " + v, NONE, vault.bridge(1, 40, v));
        }
        due.is("12: i = n", NONE, vault.path(3, 3, 0));
        due.is("12: none of none", NONE, vault.path(0, 0, 0));
        due.is("13: m = 0", NONE, vault.bridge(0, 3, 0));
        due.is("13: m > n", NONE, vault.bridge(4, 3, 0));
        due.is("13: none of none", NONE, vault.bridge(0, 0, 0));
    }

    /** Digests that stand in the shared runs, so that class and model can't err together. */
    private static void known(Due due) {
        WriteOnceVault x = new WriteOnceVault();
        x.put(1, 2, 5, 10);
        x.put(3, 4, 6, 10);
        x.put(5, 6, 7, 10);
        x.hold(2, 7, true);
        x.extend(3, 400);
        x.put(-1, -2, -3, 1000000);
        due.is("11: known", -1289112254, x.root(1));
        due.is("12: known", 459058291, x.path(5, 6, 2));
        due.is("13: known", 549800065, x.bridge(5, 6, 1));
    }

    private static void few(Due due) {
        WriteOnceVault x = new WriteOnceVault();
        due.is("12: empty", NONE, x.path(0, 1, 0));
        due.is("13: empty", NONE, x.bridge(1, 1, 0));
        x.put(1, 2, 3, 4);
        long root = x.root(1);
        x.extend(1, 9);
        due.is("11: an old root stays", root, x.root(1));
        due.is("11: beyond the records", NONE, x.root(3));
        due.is("12: beyond the records", NONE, x.path(0, 3, 0));
        due.is("13: beyond the records", NONE, x.bridge(1, 3, 0));
        due.is("12: at the records", root, x.path(0, 2, 0));
        due.is("13: at the records", x.path(1, 2, 0), x.bridge(1, 2, 0));
    }

    private static void off(Due due) {
        WriteOnceVault x = new WriteOnceVault();
        x.put(1, 2, 3, 4);
        x.extend(1, 9);
        x.power(false);
        due.is("11: off", NONE, x.root(1));
        due.is("11: off, none", NONE, x.root(0));
        due.is("12: off", NONE, x.path(0, 1, 0));
        due.is("13: off", NONE, x.bridge(1, 2, 0));
    }
}
