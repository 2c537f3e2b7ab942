import java.util.List;

/**
 * The edges of the promises that are no requests and no proofs (1, 7 to 14, 17 to 19, 21): of each
 * input the last that is allowed and the first that is refused on either side, and that a refused
 * call changes nothing.
 */
public final class EdgeCallsTest {
    private static final long NONE = 1L << 40;
    private static final int MAX = Integer.MAX_VALUE, MIN = Integer.MIN_VALUE;
    private static final Edges.Calls NEW = x -> { };
    private static final Edges.Calls SOME = EdgeCallsTest::some;
    private static final Edges.Calls SOME_OFF = Edges.then(SOME, x -> x.power(false));
    private static final Edges.Calls FORTY = EdgeCallsTest::forty;
    private static final Edges.Calls FORTY_OFF = Edges.then(FORTY, x -> x.power(false));

    private final Due due;
    private final Edges edges;

    private EdgeCallsTest(Due due) {
        this.due = due;
        this.edges = new Edges(due);
    }

    public static void main(String[] args) {
        Due due = new Due("EdgeCallsTest");
        EdgeCallsTest test = new EdgeCallsTest(due);
        test.looksSeeWhatChanged();
        test.newObject();
        test.tick();
        test.get();
        test.getIsALong();
        test.look();
        test.records();
        test.root();
        test.path();
        test.bridge();
        test.offAnswersNone();
        test.feed();
        test.word();
        test.alter();
        test.power();
        test.audit();
        test.auditChangesNothing();
        test.fiveHundredAndTwelveCalls();
        due.end();
    }

    /** Object 1 LIVE until 20 with holds 0 and 7, 2 DELETED, 3 SHREDDED, 4 LIVE until 5; 9 records, the clock at 6. */
    private static void some(WriteOnceVault x) {
        x.put(-1, 2, 101, 20);
        x.put(3, 4, 102, 0);
        x.put(5, 6, 103, 0);
        x.put(MIN, MAX, 104, 5);
        x.hold(1, 0, true);
        x.hold(1, 7, true);
        x.delete(2);
        x.delete(3);
        x.shred(3);
        x.tick(6);
        Edges.feedAndCut(x);
    }

    private static void forty(WriteOnceVault x) {
        for (int n = 1; n <= 12; n++) {
            x.put(n, -n, 100 + n, 5);
        }
        Edges.fillTo(x, 40);
        Edges.feedAndCut(x);
    }

    /** A look that is blind to a change would find every refused call right. */
    private void looksSeeWhatChanged() {
        List<String> seen = Edges.seen(SOME);
        due.yes("seen: the fed words", seen.contains("fed words 3"));
        due.yes("seen: which they are", seen.contains("they are 1, 2, ..: true"));
        due.yes("seen: the failure ahead", seen.contains("words before the power fails: 50"));
        due.yes("seen: the clock", seen.contains("clock 6"));
        due.yes("seen: the records", seen.contains("records 9"));
        due.yes("seen: off", Edges.seen(SOME_OFF).contains("records -1"));
        Edges.Calls[] changes = {
            x -> x.tick(1), x -> x.feed(4), x -> x.cut(49), x -> x.cut(-1), x -> x.power(false), x -> x.extend(1, 21),
            x -> x.included(0, 1, 0)};
        for (int n = 0; n < changes.length; n++) {
            due.no("seen: change " + n, Edges.seen(Edges.then(SOME, changes[n])).equals(seen));
        }
        due.no("seen: another fed word", Edges.seen(x -> x.feed(1)).equals(Edges.seen(x -> x.feed(2))));
    }

    private void newObject() {
        String sentence = "1: an empty archive, ";
        edges.answers(sentence + "records", NEW, x -> x.records(), 0);
        edges.answers(sentence + "objects", NEW, x -> x.look(1, 0), -1);
        edges.answers(sentence + "get", NEW, x -> x.get(1, 0), NONE);
        edges.answers(sentence + "root(0)", NEW, x -> x.root(0), 0);
        edges.answers(sentence + "root(1)", NEW, x -> x.root(1), NONE);
        edges.answers(sentence + "audit", NEW, x -> x.audit(0, 0), 0);
        edges.answers("1: the clock at 0", NEW, x -> x.tick(0), 0);
        edges.refused("1: the power on", NEW, x -> x.power(true), -1);
        edges.answers("1: no words fed", NEW, x -> Edges.fedWords(x), 0);
        edges.answers("1: no failure ahead", NEW, x -> Edges.wordsLeft(x), -1);
        edges.same("1: a new object has nothing of another one", NEW, x -> some(new WriteOnceVault()));
    }

    private void tick() {
        for (Edges.Calls before : List.of(SOME, SOME_OFF)) {
            for (int n : new int[] {-1, 1001, MAX, MIN}) {
                edges.refused("7: -1, and nothing changes, if n is not 0 .. 1000: " + n, before, x -> x.tick(n), -1);
            }
            for (int n : new int[] {0, 1, 999, 1000}) {
                edges.answers("7: the clock goes on by n: " + n, before, x -> x.tick(n), 6 + n);
                edges.answers("7: it stays there: " + n, Edges.then(before, x -> x.tick(n)), x -> x.tick(0), 6 + n);
            }
        }
        edges.same("7: by 0", SOME, Edges.then(SOME, x -> x.tick(0)));
        edges.same("7: on or off", Edges.then(SOME_OFF, x -> x.tick(9)), Edges.then(SOME, x -> {
            x.tick(9);
            x.power(false);
        }));
    }

    private void get() {
        for (int j : new int[] {-1, 2, 3, MAX, MIN}) {
            edges.refused("8: NONE if j is neither 0 nor 1: " + j, SOME, x -> x.get(1, j), NONE);
        }
        for (int id : new int[] {0, 5, -1, 12, 13, MAX, MIN}) {
            edges.refused("8: NONE if there is no such object: " + id, SOME, x -> x.get(id, 0), NONE);
            edges.refused("8: NONE if there is no such object: " + id, SOME, x -> x.get(id, 1), NONE);
        }
        edges.refused("8: NONE if there are twelve: 13", FORTY, x -> x.get(13, 0), NONE);
        for (int j = 0; j < 2; j++) {
            int word = j;
            edges.refused("8: NONE if it is not LIVE: DELETED", SOME, x -> x.get(2, word), NONE);
            edges.refused("8: NONE if it is not LIVE: SHREDDED", SOME, x -> x.get(3, word), NONE);
            edges.refused("8: NONE if the power is off", SOME_OFF, x -> x.get(1, word), NONE);
        }
        edges.answers("8: the last object", SOME, x -> x.get(4, 0), MIN);
        edges.answers("8: the last of twelve, word 0", FORTY, x -> x.get(12, 0), 12);
        edges.answers("8: the last of twelve, word 1", FORTY, x -> x.get(12, 1), -12);
        for (int key : new int[] {0, 102, -1}) {
            WriteOnceVault x = Edges.made(Edges.then(SOME_OFF, y -> {
                y.alter(280, key);
                y.power(true);
            }));
            for (int j = 0; j < 2; j++) {
                int due8 = (int) x.word(3 + j) ^ Model.mix(Model.mix(key, 1), j);
                due.is("8: K is its key as the image has it now: " + key, due8, x.get(1, j));
            }
        }
    }

    /** The least and the greatest word, and -1, are answered as they are, never as NONE. */
    private void getIsALong() {
        edges.answers("8: -1", SOME, x -> x.get(1, 0), -1L);
        edges.answers("8: the least", SOME, x -> x.get(4, 0), -2147483648L);
        edges.answers("8: the greatest", SOME, x -> x.get(4, 1), 2147483647L);
        edges.answers("17: a negative word", Edges.then(SOME_OFF, x -> x.alter(291, MIN)), x -> x.word(291), -2147483648L);
    }

    private void look() {
        int[][] states = {{1, 20, 129}, {2, 0, 0}, {3, 0, 0}, {1, 5, 0}};
        for (int id = 1; id <= 4; id++) {
            for (int what = 0; what < 3; what++) {
                int i = id, w = what;
                edges.answers("9: whatever its state, " + id + ", " + what, SOME, x -> x.look(i, w), states[id - 1][what]);
                edges.refused("9: -1 if the power is off", SOME_OFF, x -> x.look(i, w), -1);
            }
            for (int what : new int[] {-1, 3, MAX, MIN}) {
                int i = id;
                edges.refused("9: -1 if what is not 0 .. 2: " + what, SOME, x -> x.look(i, what), -1);
            }
        }
        for (int id : new int[] {0, 5, -1, 12, 13, MAX, MIN}) {
            for (int what = 0; what < 3; what++) {
                int w = what;
                edges.refused("9: -1 if there is no such object: " + id, SOME, x -> x.look(id, w), -1);
            }
        }
        edges.answers("9: the twelfth", FORTY, x -> x.look(12, 0), 1);
        edges.refused("9: -1 behind the twelfth", FORTY, x -> x.look(13, 0), -1);
        for (int number = 0; number < 8; number++) {
            int n = number;
            edges.answers("9: 2^" + n, x -> {
                x.put(1, 2, 3, 4);
                x.hold(1, n, true);
            }, x -> x.look(1, 2), 1 << n);
        }
        edges.answers("9: the sum of all", x -> {
            x.put(1, 2, 3, 4);
            for (int n = 0; n < 8; n++) {
                x.hold(1, n, true);
            }
        }, x -> x.look(1, 2), 255);
    }

    private void records() {
        edges.answers("10: none", NEW, x -> x.records(), 0);
        edges.answers("10: some", SOME, x -> x.records(), 9);
        edges.answers("10: forty", FORTY, x -> x.records(), 40);
        edges.refused("10: -1 if the power is off", SOME_OFF, x -> x.records(), -1);
        edges.refused("10: -1 if the power is off, none", x -> x.power(false), x -> x.records(), -1);
    }

    private void root() {
        for (int n : new int[] {-1, 10, 40, 41, MAX, MIN}) {
            edges.refused("11: NONE if n is not 0 .. records(): " + n, SOME, x -> x.root(n), NONE);
        }
        edges.refused("11: NONE if n is not 0 .. records()", FORTY, x -> x.root(41), NONE);
        edges.answers("11: 0 for n = 0", SOME, x -> x.root(0), 0);
        Model model = modelOf(SOME);
        for (int n = 1; n <= 9; n++) {
            int c = n;
            edges.answers("11: TREE(0, n), n = " + n, SOME, x -> x.root(c), model.tree(0, n));
        }
        edges.answers("11: TREE(0, 40)", FORTY, x -> x.root(40), modelOf(FORTY).tree(0, 40));
    }

    private static Model modelOf(Edges.Calls calls) {
        WriteOnceVault x = Edges.made(calls);
        Model model = new Model();
        for (int at = 0; at < 292; at++) {
            model.image[at] = (int) x.word(at);
        }
        return model;
    }

    private void path() {
        Model model = modelOf(SOME);
        for (int n = -1; n <= 11; n++) {
            for (int i = -1; i <= n + 1; i++) {
                int size = 0 <= i && i < n && n <= 9 ? model.pathRow(0, i, n).size() : 0;
                for (int k = -1; k <= size + 1; k++) {
                    int at = i, of = n, digest = k;
                    boolean there = 0 <= k && k < size;
                    long want = there ? model.pathRow(0, i, n).get(k) : NONE;
                    edges.answers("12: " + i + ", " + n + ", " + k, SOME, x -> x.path(at, of, digest), want);
                }
            }
        }
        for (int v : new int[] {41, MAX, MIN}) {
            edges.refused("12: NONE if not i < n", FORTY, x -> x.path(v, 40, 0), NONE);
            edges.refused("12: NONE if not n <= records()", FORTY, x -> x.path(0, v, 0), NONE);
            edges.refused("12: NONE if it has no digest k", FORTY, x -> x.path(0, 40, v), NONE);
        }
        edges.refused("12: NONE if not 0 <= i", FORTY, x -> x.path(-1, 40, 0), NONE);
        edges.refused("12: NONE if i = n", FORTY, x -> x.path(40, 40, 0), NONE);
        edges.refused("12: NONE if n = records() + 1", SOME, x -> x.path(0, 10, 0), NONE);
        edges.refused("12: NONE if there is no record", NEW, x -> x.path(0, 1, 0), NONE);
        edges.answers("12: the last digest of the longest row", FORTY, x -> x.path(0, 40, 6), modelOf(FORTY).tree(32, 8));
        edges.refused("12: NONE behind the longest row", FORTY, x -> x.path(0, 40, 7), NONE);
        edges.refused("12: NONE before the row", FORTY, x -> x.path(0, 40, -1), NONE);
    }

    private void bridge() {
        Model model = modelOf(SOME);
        for (int n = -1; n <= 11; n++) {
            for (int m = -1; m <= n + 1; m++) {
                int size = 1 <= m && m <= n && n <= 9 ? model.bridgeRow(0, m, n, false).size() : 0;
                for (int k = -1; k <= size + 1; k++) {
                    int first = m, of = n, digest = k;
                    boolean there = 0 <= k && k < size;
                    long want = there ? model.bridgeRow(0, m, n, false).get(k) : NONE;
                    edges.answers("13: " + m + ", " + n + ", " + k, SOME, x -> x.bridge(first, of, digest), want);
                }
            }
        }
        for (int v : new int[] {41, MAX, MIN}) {
            edges.refused("13: NONE if not m <= n", FORTY, x -> x.bridge(v, 40, 0), NONE);
            edges.refused("13: NONE if not n <= records()", FORTY, x -> x.bridge(1, v, 0), NONE);
            edges.refused("13: NONE if it has no digest k", FORTY, x -> x.bridge(1, 40, v), NONE);
        }
        edges.refused("13: NONE if not 1 <= m", FORTY, x -> x.bridge(0, 40, 0), NONE);
        edges.refused("13: with m = n it has none", FORTY, x -> x.bridge(40, 40, 0), NONE);
        edges.refused("13: with m = n = 1 it has none", SOME, x -> x.bridge(1, 1, 0), NONE);
        edges.refused("13: NONE if n = records() + 1", SOME, x -> x.bridge(1, 10, 0), NONE);
        edges.refused("13: NONE if m = n = 0", NEW, x -> x.bridge(0, 0, 0), NONE);
        edges.answers("13: the last digest of (1, 40)", FORTY, x -> x.bridge(1, 40, 5), modelOf(FORTY).tree(32, 8));
        edges.refused("13: NONE behind it", FORTY, x -> x.bridge(1, 40, 6), NONE);
        edges.refused("13: NONE before it", FORTY, x -> x.bridge(1, 40, -1), NONE);
    }

    private void offAnswersNone() {
        for (int n = 0; n <= 40; n++) {
            int c = n;
            edges.answers("11: NONE if the power is off, n = " + n, FORTY_OFF, x -> x.root(c), NONE);
        }
        edges.refused("11: NONE if the power is off", SOME_OFF, x -> x.root(9), NONE);
        edges.refused("11: NONE if the power is off, n = 0", SOME_OFF, x -> x.root(0), NONE);
        edges.refused("12: NONE if the power is off", SOME_OFF, x -> x.path(0, 9, 0), NONE);
        edges.refused("12: NONE if the power is off, n = 1", SOME_OFF, x -> x.path(0, 1, 0), NONE);
        edges.refused("13: NONE if the power is off", SOME_OFF, x -> x.bridge(1, 9, 0), NONE);
    }

    private void feed() {
        for (boolean off : new boolean[] {false, true}) {
            for (int there = 0; there <= 12; there++) {
                int count = there;
                Edges.Calls before = x -> {
                    x.put(1, 2, 3, 4);
                    if (off) {
                        x.power(false);
                    }
                    Edges.feed(x, count);
                };
                String sentence = "14: with " + count + " words there, off " + off;
                if (count < 12) {
                    edges.answers(sentence, before, x -> x.feed(count + 1), true);
                    edges.answers(sentence, Edges.then(before, x -> x.feed(count + 1)), x -> Edges.fedWords(x), count + 1);
                } else {
                    edges.refused(sentence, before, x -> x.feed(13));
                }
            }
        }
        for (int w : new int[] {0, -1, MAX, MIN}) {
            edges.answers("14: any word, " + w, x -> x.feed(w), x -> x.included(0, 1, w), true);
        }
        Edges.Calls again = x -> {
            Edges.feed(x, 13);
            x.included(0, 1, 0);
            x.feed(1);
        };
        edges.same("14: after twelve, the first again", x -> x.feed(1), again);
    }

    private void word() {
        for (Edges.Calls before : List.of(NEW, SOME, SOME_OFF, FORTY)) {
            for (int at : new int[] {-1, 292, 293, MAX, MIN}) {
                edges.refused("17: NONE if there is none: " + at, before, x -> x.word(at), NONE);
            }
        }
        edges.answers("17: the first", SOME, x -> x.word(0), 1);
        edges.answers("17: the first, off", SOME_OFF, x -> x.word(0), 1);
        edges.answers("17: the last", FORTY, x -> x.word(291), 112);
        edges.answers("17: the last, off", FORTY_OFF, x -> x.word(291), 112);
        edges.answers("17: as it is, off", Edges.then(SOME_OFF, x -> x.alter(0, 77)), x -> x.word(0), 77);
    }

    private void alter() {
        for (int at : new int[] {-1, 292, 293, MAX, MIN}) {
            edges.refused("18: false if at is not 0 .. 291: " + at, SOME_OFF, x -> x.alter(at, 5));
            edges.refused("18: false if the power is on: " + at, SOME, x -> x.alter(at, 5));
        }
        for (int at : new int[] {0, 1, 6, 7, 279, 280, 290, 291}) {
            edges.refused("18: false if the power is on: " + at, SOME, x -> x.alter(at, 5));
            for (int v : new int[] {5, 0, -1, MAX, MIN}) {
                edges.answers("18: " + at, SOME_OFF, x -> x.alter(at, v), true);
                WriteOnceVault x = Edges.made(SOME_OFF);
                WriteOnceVault old = Edges.made(SOME_OFF);
                x.alter(at, v);
                for (int other = 0; other < 292; other++) {
                    due.is("18: " + at + ", word " + other, other == at ? v : old.word(other), x.word(other));
                }
            }
        }
    }

    private void power() {
        edges.refused("19: -1 if the power is so already, on", NEW, x -> x.power(true), -1);
        edges.refused("19: -1 if the power is so already, on", SOME, x -> x.power(true), -1);
        edges.refused("19: -1 if the power is so already, on", FORTY, x -> x.power(true), -1);
        edges.refused("19: -1 if the power is so already, off", SOME_OFF, x -> x.power(false), -1);
        edges.refused("19: -1 if the power is so already, off", FORTY_OFF, x -> x.power(false), -1);
        edges.refused("19: -1 if the power is so already, altered", Edges.then(SOME_OFF, x -> x.alter(0, 0)),
            x -> x.power(false), -1);
        edges.answers("19: off, how many it had: none", NEW, x -> x.power(false), 0);
        edges.answers("19: off, how many it had", SOME, x -> x.power(false), 9);
        edges.answers("19: off, how many it had: forty", FORTY, x -> x.power(false), 40);
        edges.answers("19: on, how many it has: none", x -> x.power(false), x -> x.power(true), 0);
        edges.answers("19: on, how many it has", SOME_OFF, x -> x.power(true), 9);
        edges.answers("19: on, how many it has: forty", FORTY_OFF, x -> x.power(true), 40);
        for (int r = 0; r < 9; r++) {
            int record = r;
            Edges.Calls fewer = Edges.then(SOME_OFF, x -> x.alter(7 * record + 6, 0));
            edges.answers("19: on, how many it has then: " + r, fewer, x -> x.power(true), r);
            edges.answers("19: off, how many it had then: " + r, Edges.then(fewer, x -> x.power(true)), x -> x.power(false), r);
        }
        edges.same("19: off and on: fed words, the clock and the failure ahead stay", SOME, Edges.then(SOME_OFF, x -> x.power(true)));
    }

    private void audit() {
        for (Edges.Calls before : List.of(SOME, SOME_OFF)) {
            Model model = modelOf(before);
            for (int n = 0; n <= 9; n++) {
                int c = n, root = n == 0 ? 0 : model.tree(0, n);
                edges.answers("21: g if 0 <= n <= g and the root is right: " + n, before, x -> x.audit(c, root), 9);
                for (int other : new int[] {root + 1, root - 1, root ^ MIN, ~root}) {
                    edges.answers("21: -1 - g if it is not: " + n, before, x -> x.audit(c, other), -10);
                }
            }
            for (int n : new int[] {-1, 10, 40, 41, MAX, MIN}) {
                edges.answers("21: -1 - g if not 0 <= n <= g: " + n, before, x -> x.audit(n, 0), -10);
                edges.answers("21: -1 - g if not 0 <= n <= g: " + n, before, x -> x.audit(n, model.tree(0, 9)), -10);
            }
            edges.answers("21: the root of what is no sound record", before, x -> x.audit(10, model.tree(0, 10)), -10);
        }
        for (Edges.Calls before : List.of(FORTY, FORTY_OFF)) {
            int root = modelOf(before).tree(0, 40);
            edges.answers("21: forty", before, x -> x.audit(40, root), 40);
            edges.answers("21: forty, another root", before, x -> x.audit(40, root + 1), -41);
            edges.answers("21: forty-one", before, x -> x.audit(41, root), -41);
        }
        edges.answers("21: none", NEW, x -> x.audit(0, 0), 0);
        edges.answers("21: none, another root", NEW, x -> x.audit(0, 1), -1);
        edges.answers("21: none, n = 1", NEW, x -> x.audit(1, 0), -1);
        edges.answers("21: none, n = -1", NEW, x -> x.audit(-1, 0), -1);
        edges.answers("21: none, n = 1 with the root of a record of zeros", NEW, x -> x.audit(1, new Model().tree(0, 1)), -1);
    }

    private void auditChangesNothing() {
        Edges.Calls altered = Edges.then(SOME_OFF, x -> {
            x.alter(10, 9);
            x.alter(200, 9);
            x.alter(282, 9);
            x.alter(290, 9);
        });
        for (Edges.Calls before : List.of(SOME, SOME_OFF, altered, FORTY)) {
            edges.same("21: changing nothing, right or wrong", before, Edges.then(before, x -> x.audit(0, 0)));
            edges.same("21: changing nothing, right or wrong", before, Edges.then(before, x -> x.audit(3, 1)));
            edges.same("21: changing nothing, right or wrong", before, Edges.then(before, x -> x.audit(-1, 0)));
        }
        edges.answers("21: as it is now", altered, x -> x.audit(0, 0), 1);
        edges.answers("21: as it is now, not as it was", altered, x -> x.audit(2, modelOf(SOME).tree(0, 2)), -2);
    }

    private void fiveHundredAndTwelveCalls() {
        WriteOnceVault x = new WriteOnceVault();
        int calls = 0;
        for (int n = 1; n <= 12; n++, calls++) {
            due.is("At most 512 calls: put", n, x.put(n, n, n, 600000));
        }
        for (; calls < 509; calls++) {
            due.is("At most 512 calls: call " + calls, 1000 * (calls - 11), x.tick(1000));
        }
        due.is("At most 512 calls: call 510, the clock is less than the last date", 12, x.get(12, 0));
        due.is("At most 512 calls: call 511", -7, x.shred(12));
        due.is("At most 512 calls: call 512", 0, x.extend(12, 600001));
    }
}
