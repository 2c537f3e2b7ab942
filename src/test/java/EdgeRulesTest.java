/**
 * The edges of the RULES in 'Terms', kind by kind: the last input that is allowed, the first that
 * is refused on either side, the order of the rules, and that a refused request changes nothing.
 */
public final class EdgeRulesTest {
    private static final int BAD = -1, ABSENT = -2, GONE = -3, SHORT = -4, SAME = -5;
    private static final int HELD = -6, EARLY = -7, FULL = -8, OFF = -10;
    private static final int PUT = 1, EXTEND = 2, HOLD = 3, RELEASE = 4, DELETE = 5, SHRED = 6;
    private static final int MAX = Integer.MAX_VALUE, MIN = Integer.MIN_VALUE;
    private static final int[] NO_DATES = {-1, 1000001, MAX, MIN};
    private static final int[] NO_NUMBERS = {-1, 8, 32, 39, MAX, MIN};
    private static final int[] NO_IDS = {0, -1, 6, 12, 13, MAX, MIN};

    private static final Edges.Calls NEW = x -> { };

    private final Edges edges;
    private final Due due;

    private EdgeRulesTest(Due due) {
        this.due = due;
        this.edges = new Edges(due);
    }

    public static void main(String[] args) {
        Due due = new Due("EdgeRulesTest");
        EdgeRulesTest test = new EdgeRulesTest(due);
        test.putBad();
        test.putShort();
        test.putTwelve();
        test.putMakes();
        test.extendBad();
        test.extendShort();
        test.holdBad();
        test.holdSame();
        test.absent();
        test.gone();
        test.held();
        test.early();
        test.fortyAtMost();
        test.orderOfPut();
        test.orderOfExtend();
        test.orderOfHold();
        test.orderOfDeleteAndShred();
        test.orderBeforeForty();
        test.offBeforeAllElse();
        due.end();
    }

    private void refused(String sentence, Edges.Calls before, int kind, int id, int value, int want) {
        String call = sentence + ", kind " + kind + " of " + id + " with " + value;
        edges.refused(call, Edges.then(before, Edges::feedAndCut), x -> Edges.request(x, kind, id, value), want);
    }

    /** The request is allowed, and its words stand in the next record. */
    private void allowed(String sentence, Edges.Calls before, int kind, int id, int value) {
        String call = sentence + ", kind " + kind + " of " + id + " with " + value;
        WriteOnceVault x = Edges.made(before);
        int r = x.records();
        int time = x.tick(0);
        due.is(call, kind == PUT ? id : 0, Edges.request(x, kind, id, value));
        due.is(call + ": records", r + 1, x.records());
        int c0 = kind == PUT ? 7 ^ Model.mix(Model.mix(9, id), 0) : 0;
        int c1 = kind == PUT ? 8 ^ Model.mix(Model.mix(9, id), 1) : 0;
        int[] six = {kind, id, value, c0, c1, time};
        for (int j = 0; j < 6; j++) {
            due.is(call + ": word " + j, six[j], x.word(7 * r + j));
        }
        due.is(call + ": CHECK", Edges.leaf(six) | 1, x.word(7 * r + 6));
    }

    /** Object 1 LIVE until 20, 2 LIVE until 0 with hold 3, 3 DELETED, 4 SHREDDED, 5 LIVE until 10; the clock at 10. */
    private static void five(WriteOnceVault x) {
        x.put(1, 2, 101, 20);
        x.put(3, 4, 102, 0);
        x.hold(2, 3, true);
        x.put(5, 6, 103, 0);
        x.put(7, 8, 104, 0);
        x.put(9, 10, 105, 10);
        x.delete(3);
        x.shred(4);
        x.tick(10);
    }

    private static void fiveAndForty(WriteOnceVault x) {
        five(x);
        Edges.fillTo(x, 40);
    }

    private static void fiveAndThirtyNine(WriteOnceVault x) {
        five(x);
        Edges.fillTo(x, 39);
    }

    private static void puts(WriteOnceVault x, int count) {
        for (int n = 1; n <= count; n++) {
            x.put(n, n, 100 + n, 5);
        }
    }

    private void putBad() {
        String sentence = "PUT, BAD: the date is not 0 .. 1000000";
        for (int date : NO_DATES) {
            refused(sentence, NEW, PUT, 1, date, BAD);
            refused(sentence, EdgeRulesTest::five, PUT, 6, date, BAD);
        }
        for (int date : new int[] {0, 1, 999999, 1000000}) {
            allowed(sentence, NEW, PUT, 1, date);
        }
        allowed(sentence, EdgeRulesTest::five, PUT, 6, 1000000);
    }

    private void putShort() {
        String sentence = "PUT, SHORT: it is less than t";
        for (int t : new int[] {1, 10, 1000}) {
            Edges.Calls before = x -> x.tick(t);
            refused(sentence, before, PUT, 1, 0, SHORT);
            refused(sentence, before, PUT, 1, t - 1, SHORT);
            allowed(sentence, before, PUT, 1, t);
            allowed(sentence, before, PUT, 1, t + 1);
        }
        allowed(sentence + ", t = 0", NEW, PUT, 1, 0);
    }

    private void putTwelve() {
        String sentence = "PUT, FULL: twelve objects are there";
        allowed(sentence, x -> puts(x, 10), PUT, 11, 5);
        allowed(sentence, x -> puts(x, 11), PUT, 12, 5);
        refused(sentence, x -> puts(x, 12), PUT, 13, 5, FULL);
        refused(sentence + ", all shredded", EdgeRulesTest::twelveShredded, PUT, 13, 5, FULL);
        WriteOnceVault x = Edges.made(y -> puts(y, 12));
        for (int id = 1; id <= 12; id++) {
            due.is("OBJECTS are numbered in the order of their puts: " + id, id, x.get(id, 0));
        }
        due.is("OBJECTS, at most 12", -1, x.look(13, 0));
    }

    private static void twelveShredded(WriteOnceVault x) {
        puts(x, 12);
        x.tick(5);
        for (int id = 1; id <= 12; id++) {
            x.shred(id);
        }
    }

    private void putMakes() {
        WriteOnceVault x = Edges.made(EdgeRulesTest::five);
        x.put(7, 8, 9, 11);
        due.is("PUT makes the next object, LIVE", 1, x.look(6, 0));
        due.is("PUT makes the next object, its date", 11, x.look(6, 1));
        due.is("PUT makes the next object, without holds", 0, x.look(6, 2));
        due.is("PUT makes the next object, one only", -1, x.look(7, 0));
        due.is("DELETE makes it DELETED", 2, x.look(3, 0));
        due.is("SHRED makes it SHREDDED", 3, x.look(4, 0));
        x.power(false);
        x.alter(7, 0);
        x.power(true);
        x.put(7, 8, 9, 11);
        due.is("PUT makes the next object, without holds that one of that number had", 0, x.look(2, 2));
    }

    private void extendBad() {
        String sentence = "EXTEND, BAD: it is not 0 .. 1000000";
        for (int date : NO_DATES) {
            refused(sentence, EdgeRulesTest::five, EXTEND, 1, date, BAD);
        }
        refused(sentence + ": 0 is a date", EdgeRulesTest::five, EXTEND, 1, 0, SHORT);
        allowed(sentence, EdgeRulesTest::five, EXTEND, 1, 1000000);
        allowed(sentence, EdgeRulesTest::five, EXTEND, 1, 999999);
    }

    private void extendShort() {
        String sentence = "EXTEND, SHORT: the new date is not greater than its date";
        refused(sentence, EdgeRulesTest::five, EXTEND, 1, 19, SHORT);
        refused(sentence, EdgeRulesTest::five, EXTEND, 1, 20, SHORT);
        allowed(sentence, EdgeRulesTest::five, EXTEND, 1, 21);
        refused(sentence, EdgeRulesTest::five, EXTEND, 2, 0, SHORT);
        allowed(sentence + ", though before t", EdgeRulesTest::five, EXTEND, 2, 1);
        Edges.Calls last = x -> {
            five(x);
            x.extend(1, 1000000);
        };
        refused(sentence + ", the last date", last, EXTEND, 1, 1000000, SHORT);
        refused(sentence + ", behind the last date", last, EXTEND, 1, 1000001, BAD);
        WriteOnceVault x = Edges.made(EdgeRulesTest::five);
        x.extend(1, 21);
        due.is("EXTEND, the date becomes a later one", 21, x.look(1, 1));
        due.is("EXTEND, SHORT: of the new date now", SHORT, x.extend(1, 21));
    }

    private void holdBad() {
        for (int number : NO_NUMBERS) {
            refused("HOLD, BAD: it is not 0 .. 7", EdgeRulesTest::five, HOLD, 1, number, BAD);
            refused("RELEASE, BAD: it is not 0 .. 7", EdgeRulesTest::five, RELEASE, 2, number, BAD);
        }
        for (int number = 0; number <= 7; number++) {
            int n = number;
            allowed("HOLD, BAD: it is not 0 .. 7", EdgeRulesTest::five, HOLD, 1, n);
            Edges.Calls held = x -> {
                five(x);
                x.hold(1, n, true);
            };
            allowed("RELEASE, BAD: it is not 0 .. 7", held, RELEASE, 1, n);
            WriteOnceVault x = Edges.made(held);
            due.is("HOLDS, numbers 0 .. 7: " + n, 1 << n, x.look(1, 2));
        }
    }

    private void holdSame() {
        for (int number = 0; number <= 7; number++) {
            int n = number;
            Edges.Calls one = x -> {
                five(x);
                x.hold(1, n, true);
            };
            Edges.Calls others = x -> {
                five(x);
                for (int other = 0; other <= 7; other++) {
                    x.hold(1, other, true);
                }
                x.hold(1, n, false);
            };
            refused("HOLD, SAME: that number is among its holds", one, HOLD, 1, n, SAME);
            allowed("HOLD, SAME: not if all others are", others, HOLD, 1, n);
            refused("RELEASE, SAME: it is not", others, RELEASE, 1, n, SAME);
            allowed("RELEASE, SAME: not if it is the only one", one, RELEASE, 1, n);
        }
        allowed("HOLD, SAME: of another object", EdgeRulesTest::five, HOLD, 1, 3);
        refused("RELEASE, SAME: of another object", EdgeRulesTest::five, RELEASE, 1, 3, SAME);
    }

    private void absent() {
        String sentence = "ABSENT: no such object";
        int[] values = {0, 0, 30, 1, 1, 0, 0};
        for (int kind = EXTEND; kind <= SHRED; kind++) {
            for (int id : NO_IDS) {
                refused(sentence, EdgeRulesTest::five, kind, id, values[kind], ABSENT);
            }
            refused(sentence + ", none at all", NEW, kind, 1, values[kind], ABSENT);
            refused(sentence + ", behind twelve", x -> puts(x, 12), kind, 13, values[kind], ABSENT);
        }
        allowed(sentence + ": the first", EdgeRulesTest::five, EXTEND, 1, 30);
        allowed(sentence + ": the last", EdgeRulesTest::five, EXTEND, 5, 30);
        allowed(sentence + ": the twelfth", x -> puts(x, 12), HOLD, 12, 7);
        allowed(sentence + ": the last", EdgeRulesTest::five, DELETE, 5, 0);
        allowed(sentence + ": the last", EdgeRulesTest::five, SHRED, 5, 0);
    }

    private void gone() {
        for (int id = 3; id <= 4; id++) {
            refused("EXTEND, GONE: it is not LIVE", EdgeRulesTest::five, EXTEND, id, 30, GONE);
            refused("HOLD, GONE: the object is not LIVE", EdgeRulesTest::five, HOLD, id, 1, GONE);
            refused("RELEASE, GONE: the object is not LIVE", EdgeRulesTest::five, RELEASE, id, 1, GONE);
            refused("DELETE, GONE: it is not LIVE", EdgeRulesTest::five, DELETE, id, 0, GONE);
        }
        refused("SHRED, GONE: it is SHREDDED", EdgeRulesTest::five, SHRED, 4, 0, GONE);
        allowed("SHRED, GONE: not if it is DELETED", EdgeRulesTest::five, SHRED, 3, 0);
        allowed("SHRED, GONE: not if it is LIVE", EdgeRulesTest::five, SHRED, 5, 0);
        allowed("DELETE, GONE: not if it is LIVE", EdgeRulesTest::five, DELETE, 5, 0);
        WriteOnceVault x = Edges.made(EdgeRulesTest::five);
        due.is("SHRED of a DELETED one", 0, x.shred(3));
        due.is("SHRED of a DELETED one: its state", 3, x.look(3, 0));
        due.is("SHRED of a DELETED one: its key", 0, x.word(282));
    }

    private void held() {
        for (int number = 0; number <= 7; number++) {
            int n = number;
            Edges.Calls held = x -> {
                five(x);
                x.hold(5, n, true);
            };
            Edges.Calls free = Edges.then(held, x -> x.hold(5, n, false));
            Edges.Calls heldTwice = Edges.then(held, x -> {
                x.hold(5, (n + 1) % 8, true);
                x.hold(5, n, false);
            });
            for (int kind = DELETE; kind <= SHRED; kind++) {
                refused("HELD: it has the hold " + n, held, kind, 5, 0, HELD);
                refused("HELD: it has another hold than " + n, heldTwice, kind, 5, 0, HELD);
                allowed("HELD: it has a hold no more", free, kind, 5, 0);
            }
        }
    }

    private void early() {
        for (int kind = DELETE; kind <= SHRED; kind++) {
            for (int date : new int[] {1, 20, 1000}) {
                Edges.Calls before = x -> {
                    x.put(1, 2, 3, date);
                    x.tick(date - 1);
                };
                refused("EARLY: t is less than its date", before, kind, 1, 0, EARLY);
                allowed("EARLY: t is its date", Edges.then(before, x -> x.tick(1)), kind, 1, 0);
                allowed("EARLY: t is more than its date", Edges.then(before, x -> x.tick(2)), kind, 1, 0);
                Edges.Calls extended = Edges.then(before, x -> {
                    x.extend(1, date + 1);
                    x.tick(1);
                });
                refused("EARLY: t is less than its later date", extended, kind, 1, 0, EARLY);
                allowed("EARLY: t is its later date", Edges.then(extended, x -> x.tick(1)), kind, 1, 0);
            }
            Edges.Calls now = x -> x.put(1, 2, 3, 0);
            allowed("EARLY: both are 0", now, kind, 1, 0);
        }
    }

    /** Of each kind a request that all other rules allow. */
    private static final int[][] ALLOWED = {
        {PUT, 6, 10}, {EXTEND, 5, 11}, {HOLD, 5, 0}, {RELEASE, 2, 3}, {DELETE, 5, 0}, {SHRED, 5, 0}, {SHRED, 3, 0}};

    private void fortyAtMost() {
        String sentence = "Every kind, FULL: forty records are there";
        for (int[] a : ALLOWED) {
            allowed(sentence + ", not before", EdgeRulesTest::fiveAndThirtyNine, a[0], a[1], a[2]);
            refused(sentence, EdgeRulesTest::fiveAndForty, a[0], a[1], a[2], FULL);
        }
        WriteOnceVault x = Edges.made(EdgeRulesTest::fiveAndThirtyNine);
        x.put(7, 8, 9, 10);
        due.is("FULL: the put that is the fortieth record can be read", 7, x.get(6, 0));
        due.is("FULL: forty comes back", 40, x.power(false));
        due.is("FULL: forty comes back", 40, x.power(true));
        due.is("FULL: the put that is the fortieth record can be read then", 8, x.get(6, 1));
    }

    private void orderOfPut() {
        refused("PUT, BAD before SHORT, t = 0", NEW, PUT, 1, -1, BAD);
        refused("PUT, BAD before SHORT", EdgeRulesTest::five, PUT, 6, -1, BAD);
        Edges.Calls twelve = x -> {
            puts(x, 12);
            x.tick(6);
        };
        refused("PUT, BAD before FULL", twelve, PUT, 13, -1, BAD);
        refused("PUT, BAD before FULL", twelve, PUT, 13, 1000001, BAD);
        refused("PUT, SHORT before FULL", twelve, PUT, 13, 5, SHORT);
        refused("PUT, FULL last", twelve, PUT, 13, 6, FULL);
    }

    private void orderOfExtend() {
        for (int date : NO_DATES) {
            refused("EXTEND, BAD before ABSENT", EdgeRulesTest::five, EXTEND, 6, date, BAD);
            refused("EXTEND, BAD before GONE", EdgeRulesTest::five, EXTEND, 3, date, BAD);
            refused("EXTEND, BAD before GONE", EdgeRulesTest::five, EXTEND, 4, date, BAD);
        }
        refused("EXTEND, BAD before SHORT", EdgeRulesTest::five, EXTEND, 1, -1, BAD);
        refused("EXTEND, ABSENT before SHORT", EdgeRulesTest::five, EXTEND, 6, 0, ABSENT);
        refused("EXTEND, GONE before SHORT", EdgeRulesTest::five, EXTEND, 3, 0, GONE);
        refused("EXTEND, GONE before SHORT", EdgeRulesTest::five, EXTEND, 4, 0, GONE);
    }

    private void orderOfHold() {
        for (int kind = HOLD; kind <= RELEASE; kind++) {
            for (int number : NO_NUMBERS) {
                refused("HOLD, RELEASE, BAD before ABSENT", EdgeRulesTest::five, kind, 6, number, BAD);
                refused("HOLD, RELEASE, BAD before GONE", EdgeRulesTest::five, kind, 3, number, BAD);
                refused("HOLD, RELEASE, BAD before GONE", EdgeRulesTest::five, kind, 4, number, BAD);
            }
        }
        refused("RELEASE, BAD before SAME", EdgeRulesTest::five, RELEASE, 1, 8, BAD);
        refused("RELEASE, ABSENT before SAME", EdgeRulesTest::five, RELEASE, 6, 3, ABSENT);
        refused("RELEASE, GONE before SAME", EdgeRulesTest::five, RELEASE, 3, 3, GONE);
        refused("RELEASE, GONE before SAME", EdgeRulesTest::five, RELEASE, 4, 3, GONE);
    }

    private void orderOfDeleteAndShred() {
        Edges.Calls held = x -> {
            five(x);
            x.hold(1, 0, true);
        };
        for (int kind = DELETE; kind <= SHRED; kind++) {
            refused("DELETE, SHRED, HELD before EARLY", held, kind, 1, 0, HELD);
            refused("DELETE, SHRED, EARLY alone", EdgeRulesTest::five, kind, 1, 0, EARLY);
            refused("DELETE, SHRED, HELD alone", EdgeRulesTest::five, kind, 2, 0, HELD);
        }
    }

    /** kind, id, value, the rule that is broken besides FULL. */
    private static final int[][] BEFORE_FORTY = {
        {PUT, 6, -1, BAD}, {PUT, 6, 1000001, BAD}, {PUT, 6, 9, SHORT},
        {EXTEND, 5, -1, BAD}, {EXTEND, 5, 1000001, BAD}, {EXTEND, 6, 11, ABSENT}, {EXTEND, 0, 11, ABSENT},
        {EXTEND, 3, 11, GONE}, {EXTEND, 4, 11, GONE}, {EXTEND, 5, 10, SHORT},
        {HOLD, 5, 8, BAD}, {HOLD, 5, -1, BAD}, {HOLD, 6, 0, ABSENT}, {HOLD, 3, 0, GONE}, {HOLD, 2, 3, SAME},
        {RELEASE, 2, 8, BAD}, {RELEASE, 2, -1, BAD}, {RELEASE, 6, 3, ABSENT}, {RELEASE, 4, 3, GONE},
        {RELEASE, 5, 3, SAME},
        {DELETE, 6, 0, ABSENT}, {DELETE, 3, 0, GONE}, {DELETE, 4, 0, GONE}, {DELETE, 2, 0, HELD},
        {DELETE, 1, 0, EARLY},
        {SHRED, 6, 0, ABSENT}, {SHRED, 4, 0, GONE}, {SHRED, 2, 0, HELD}, {SHRED, 1, 0, EARLY}};

    private void orderBeforeForty() {
        for (int[] b : BEFORE_FORTY) {
            refused("Every kind, after these: FULL", EdgeRulesTest::fiveAndForty, b[0], b[1], b[2], b[3]);
        }
    }

    private void offBeforeAllElse() {
        Edges.Calls off = Edges.then(EdgeRulesTest::five, x -> x.power(false));
        Edges.Calls offAtForty = Edges.then(EdgeRulesTest::fiveAndForty, x -> x.power(false));
        for (int[] a : ALLOWED) {
            refused("A REQUEST answers OFF when the power is off", off, a[0], a[1], a[2], OFF);
        }
        for (int[] b : BEFORE_FORTY) {
            refused("A REQUEST answers OFF, before all else", offAtForty, b[0], b[1], b[2], OFF);
        }
    }
}
