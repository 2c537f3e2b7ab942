/**
 * The edges in what 'Terms' says of writing, and of promise 20: which words a request writes, in
 * which order, and what is there, is answered and comes back when the power fails before each one.
 */
public final class EdgeWritingTest {
    private static final long NONE = 1L << 40;
    private static final int LOST = -9, OFF = -10;
    private static final int PUT = 1, EXTEND = 2, SHRED = 6;

    /** Of each kind a request that is allowed after four(), at the clock 7: kind, id, value. */
    private static final int[][] REQUESTS = {
        {1, 5, 8}, {2, 1, 21}, {3, 1, 7}, {4, 2, 3}, {5, 3, 0}, {6, 3, 0}, {6, 4, 0}};

    private final Due due;
    private final Edges edges;

    private EdgeWritingTest(Due due) {
        this.due = due;
        this.edges = new Edges(due);
    }

    public static void main(String[] args) {
        Due due = new Due("EdgeWritingTest");
        EdgeWritingTest test = new EdgeWritingTest(due);
        for (int[] request : REQUESTS) {
            int words = wordsOf(request[0]);
            for (int n = 0; n < words; n++) {
                test.failsAfter(request, n);
            }
            test.isWrittenWhole(request, words);
            test.isWrittenWhole(request, words + 1);
            test.isWrittenWhole(request, 400);
        }
        test.orderOfPut();
        test.orderOfShred();
        test.shredWithoutItsKeyWord();
        test.wordsThatDoNotChangeCount();
        test.cutGoesOverRequests();
        test.refusedRequestsDoNotCount();
        test.refusedBeforeTheFirstWord();
        test.otherCallsDoNotCount();
        test.wipingDoesNotCount();
        test.cutBounds();
        test.exactlyFourHundred();
        test.replaced();
        test.powerDoesNotEndACut();
        test.afterTheFailureNoneIsAhead();
        due.end();
    }

    private static int wordsOf(int kind) {
        return kind == PUT || kind == SHRED ? 8 : 7;
    }

    /** Object 1 LIVE until 20, 2 LIVE with hold 3, 3 LIVE until 5, 4 DELETED; 6 records, the clock at 7. */
    private static void four(WriteOnceVault x) {
        x.tick(4);
        x.put(1, 2, 101, 20);
        x.put(3, 4, 102, 4);
        x.hold(2, 3, true);
        x.put(5, 6, 103, 5);
        x.put(7, 8, 104, 4);
        x.delete(4);
        x.tick(3);
    }

    private static int ask(WriteOnceVault x, int[] request) {
        return Edges.request(x, request[0], request[1], request[2]);
    }

    /** The words that the request writes, as places and values, in the order of the document. */
    private static int[][] writes(int[] request) {
        int kind = request[0], id = request[1];
        int c0 = kind == PUT ? 7 ^ Model.mix(Model.mix(9, id), 0) : 0;
        int c1 = kind == PUT ? 8 ^ Model.mix(Model.mix(9, id), 1) : 0;
        int[] six = {kind, id, request[2], c0, c1, 7};
        int[][] all = new int[wordsOf(kind)][];
        int first = kind == PUT ? 1 : 0;
        for (int j = 0; j < 6; j++) {
            all[first + j] = new int[] {42 + j, six[j]};
        }
        all[first + 6] = new int[] {48, Edges.leaf(six) | 1};
        if (kind == PUT) {
            all[0] = new int[] {279 + id, 9};
        } else if (kind == SHRED) {
            all[7] = new int[] {279 + id, 0};
        }
        return all;
    }

    private void failsAfter(int[] request, int n) {
        String sentence = "If the power fails after " + n + " words of kind " + request[0] + " of " + request[1] + ": ";
        Edges.Calls before = x -> {
            four(x);
            Edges.feed(x, 2);
        };
        Edges.Calls failed = Edges.then(before, x -> {
            x.cut(n);
            ask(x, request);
        });
        edges.answers(sentence + "the answer is LOST", Edges.then(before, x -> x.cut(n)), x -> ask(x, request), LOST);
        restIsNotWritten(sentence, before, failed, request, n);
        powerIsOff(sentence, failed);
        Edges.Calls back = Edges.then(failed, x -> x.power(true));
        boolean whole = request[0] == SHRED && n == 7;
        edges.answers(sentence + "the records that come back", failed, x -> x.power(true), whole ? 7 : 6);
        edges.same(sentence + "what comes back, and no failure is ahead",
            whole ? Edges.then(before, x -> ask(x, request)) : before, back);
    }

    private void restIsNotWritten(String sentence, Edges.Calls before, Edges.Calls failed, int[] request, int n) {
        int[] want = new int[292];
        WriteOnceVault old = Edges.made(before);
        for (int at = 0; at < 292; at++) {
            want[at] = (int) old.word(at);
        }
        int[][] all = writes(request);
        for (int j = 0; j < n; j++) {
            want[all[j][0]] = all[j][1];
        }
        WriteOnceVault x = Edges.made(failed);
        for (int at = 0; at < 292; at++) {
            due.is(sentence + "word " + at, want[at], x.word(at));
        }
    }

    private void powerIsOff(String sentence, Edges.Calls failed) {
        edges.refused(sentence + "off already", failed, x -> x.power(false), -1);
        edges.refused(sentence + "a request", failed, x -> x.extend(1, 100), OFF);
        edges.answers(sentence + "records", failed, x -> x.records(), -1);
        edges.answers(sentence + "look", failed, x -> x.look(1, 0), -1);
        edges.answers(sentence + "get", failed, x -> x.get(1, 0), NONE);
        edges.answers(sentence + "root", failed, x -> x.root(0), NONE);
        edges.answers(sentence + "the clock goes on", failed, x -> x.tick(1), 8);
        edges.answers(sentence + "fed words stay", failed, x -> Edges.fedWords(x), 2);
        edges.answers(sentence + "alter", failed, x -> x.alter(0, 1), true);
    }

    private void isWrittenWhole(int[] request, int n) {
        String sentence = "A request of kind " + request[0] + " with " + n + " words to go: ";
        Edges.Calls before = x -> {
            four(x);
            x.cut(n);
        };
        edges.answers(sentence + "its answer", before, x -> ask(x, request), request[0] == PUT ? 5 : 0);
        WriteOnceVault x = Edges.made(before);
        ask(x, request);
        for (int[] write : writes(request)) {
            due.is(sentence + "word " + write[0], write[1], x.word(write[0]));
        }
        due.is(sentence + "records", 7, x.records());
        due.is(sentence + "what is left", n - wordsOf(request[0]), Edges.wordsLeft(x));
    }

    private void orderOfPut() {
        WriteOnceVault x = Edges.made(EdgeWritingTest::four);
        x.cut(1);
        due.is("put writes its key, then the seven words", LOST, x.put(7, 8, 9, 10));
        due.is("put writes its key first", 9, x.word(284));
        due.is("put writes no KIND yet", 0, x.word(42));
        x.power(true);
        due.is("the key of an object that is not there becomes 0", 0, x.word(284));
        due.is("the number is free again", 5, x.put(7, 8, 9, 10));
    }

    private void orderOfShred() {
        WriteOnceVault x = Edges.made(EdgeWritingTest::four);
        x.cut(7);
        due.is("shred writes the seven words, then 0 as the key", LOST, x.shred(3));
        due.is("shred writes its CHECK before the key", 1, x.word(48) & 1);
        due.is("shred has not written the key yet", 103, x.word(282));
        due.is("the seven words are sound", 7, x.audit(0, 0));
        due.is("the object comes back SHREDDED", 7, x.power(true));
        due.is("the object comes back SHREDDED", 3, x.look(3, 0));
        due.is("the key of a SHREDDED object becomes 0", 0, x.word(282));
    }

    /** No key is named among what makes a record SOUND: such a shred is done, whatever the key is. */
    private void shredWithoutItsKeyWord() {
        for (int id = 3; id <= 4; id++) {
            for (int key : new int[] {100 + id, 0, -1}) {
                WriteOnceVault x = Edges.made(EdgeWritingTest::four);
                x.cut(7);
                String what = "a shred of " + id + " that was cut off before its key word, the key being " + key;
                due.is(what, LOST, x.shred(id));
                due.yes(what + ": the power is off", x.alter(279 + id, key));
                due.is(what + " is sound", 7, x.audit(0, 0));
                due.is(what + ": audit changes nothing", key, x.word(279 + id));
                due.is(what + " comes back", 7, x.power(true));
                due.is(what + ": SHREDDED", 3, x.look(id, 0));
                due.is(what + ": the key becomes 0", 0, x.word(279 + id));
                due.is(what + ": the other keys stay", 102, x.word(281));
                due.is(what + ": GONE", -3, x.shred(id));
            }
        }
    }

    /** VALUE, C0, C1 and TIME are 0 here, as they were: they are written and counted all the same. */
    private void wordsThatDoNotChangeCount() {
        for (int n = 0; n <= 7; n++) {
            int words = n;
            Edges.Calls before = x -> {
                x.put(1, 2, 0, 0);
                x.cut(words);
            };
            edges.answers("cut, a word that stays 0 counts: hold after " + n, before, x -> x.hold(1, 0, true),
                n < 7 ? LOST : 0);
            edges.answers("cut, a key that stays 0 counts: shred after " + n, before, x -> x.shred(1), LOST);
        }
        edges.answers("cut, a key that is 0 counts in a put", x -> x.cut(7), x -> x.put(0, 0, 0, 0), LOST);
        edges.answers("cut, a key that is 0 counts in a put", x -> x.cut(8), x -> x.put(0, 0, 0, 0), 1);
    }

    private void cutGoesOverRequests() {
        for (int n = 0; n <= 30; n++) {
            WriteOnceVault x = new WriteOnceVault();
            x.cut(n);
            int put = x.put(1, 2, 3, 4);
            due.is("cut(" + n + "): the first request", n < 8 ? LOST : 1, put);
            due.is("cut(" + n + "): the second", n < 8 ? OFF : n < 15 ? LOST : 0, x.extend(1, 5));
            due.is("cut(" + n + "): the third", n < 15 ? OFF : n < 22 ? LOST : 0, x.extend(1, 6));
            due.is("cut(" + n + "): the fourth", n < 22 ? OFF : n < 29 ? LOST : 0, x.extend(1, 7));
            due.is("cut(" + n + "): the fifth", n < 29 ? OFF : LOST, x.extend(1, 8));
        }
    }

    private void refusedRequestsDoNotCount() {
        Edges.Calls before = x -> {
            four(x);
            x.cut(7);
        };
        Edges.Calls refused = Edges.then(before, x -> {
            x.put(1, 1, 1, -1);
            x.put(1, 1, 1, 0);
            x.extend(1, 20);
            x.hold(2, 3, true);
            x.hold(1, 3, false);
            x.delete(2);
            x.shred(1);
        });
        edges.same("cut, words that are written by requests: a refused one writes none", before, refused);
        edges.answers("cut, the last word that can be written", refused, x -> x.extend(1, 21), 0);
        edges.answers("cut, one after these", Edges.then(refused, x -> x.extend(1, 21)), x -> x.extend(1, 22), LOST);
    }

    /** A refused request writes no word, so the power does not fail in it. */
    private void refusedBeforeTheFirstWord() {
        Edges.Calls none = x -> {
            four(x);
            x.cut(0);
        };
        edges.refused("cut(0), a refused put", none, x -> x.put(1, 1, 1, 6), -4);
        edges.refused("cut(0), a refused extend", none, x -> x.extend(1, 20), -4);
        edges.refused("cut(0), a refused hold", none, x -> x.hold(2, 3, true), -5);
        edges.refused("cut(0), a refused release", none, x -> x.hold(1, 3, false), -5);
        edges.refused("cut(0), a refused delete", none, x -> x.delete(2), -6);
        edges.refused("cut(0), a refused shred", none, x -> x.shred(1), -7);
        Edges.Calls full = Edges.then(EdgeWritingTest::four, x -> {
            Edges.fillTo(x, 40);
            x.cut(0);
        });
        for (int[] request : REQUESTS) {
            // What fills the archive moves the date of object 1 on.
            int id = request[0] == EXTEND ? 3 : request[1];
            edges.refused("cut(0), forty records are there", full, x -> Edges.request(x, request[0], id, request[2]), -8);
        }
        edges.refused("cut(0), the power is off", Edges.then(none, x -> x.power(false)), x -> x.extend(1, 21), OFF);
    }

    private void otherCallsDoNotCount() {
        Edges.Calls before = x -> {
            four(x);
            x.cut(3);
        };
        Edges.Calls others = Edges.then(before, x -> {
            x.get(1, 0);
            x.look(1, 1);
            x.root(6);
            x.path(0, 6, 0);
            x.bridge(1, 6, 0);
            x.included(0, 1, 0);
            x.extended(1, 1, 0, 0);
            x.audit(6, 0);
            x.word(0);
            x.tick(0);
            x.power(false);
            x.alter(100, 1);
            x.power(true);
        });
        edges.same("cut, words that are written by requests: no other call counts", before, others);
    }

    private void wipingDoesNotCount() {
        Edges.Calls before = x -> {
            four(x);
            x.power(false);
            x.alter(7, 0);
            x.cut(0);
        };
        WriteOnceVault x = Edges.made(before);
        due.is("That writing does not count for cut: the power comes back", 1, x.power(true));
        due.is("That writing does not count for cut: all is wiped", 0, x.word(7));
        due.is("That writing does not count for cut: the keys, too", 0, x.word(281));
        due.is("That writing does not count for cut: the power is on", 1, x.records());
        due.is("That writing does not count for cut: it is ahead still", LOST, x.extend(1, 21));
        due.is("That writing does not count for cut: not a word", 0, x.word(7));
    }

    private void cutBounds() {
        Edges.Calls ahead = x -> {
            four(x);
            Edges.feedAndCut(x);
        };
        for (Edges.Calls before : new Edges.Calls[] {EdgeWritingTest::four, ahead, Edges.then(ahead, x -> x.power(false))}) {
            for (int n : new int[] {-2, 401, Integer.MAX_VALUE, Integer.MIN_VALUE}) {
                edges.refused("20: false, changing nothing, if n is not -1 .. 400: " + n, before, x -> x.cut(n));
            }
            for (int n : new int[] {-1, 0, 1, 399, 400}) {
                edges.answers("20: n is -1 .. 400: " + n, before, x -> x.cut(n), true);
                WriteOnceVault x = Edges.made(before);
                x.cut(n);
                due.is("20: n more words can be written: " + n, n, Edges.wordsLeft(x));
            }
        }
    }

    /** A put and 56 extends are 400 words; no archive holds so many records, so it is emptied once. */
    private void exactlyFourHundred() {
        WriteOnceVault x = new WriteOnceVault();
        x.cut(400);
        due.is("20: 400, a put", 1, x.put(1, 2, 3, 0));
        Edges.fillTo(x, 29);
        x.power(false);
        x.alter(7, 0);
        due.is("20: 400, emptied but for the put", 1, x.power(true));
        Edges.fillTo(x, 29);
        due.is("20: 400, all are written", 29, x.records());
        due.is("20: 400, one after these", LOST, x.extend(1, 500));
        due.is("20: 400, it is not written", 0, x.word(7 * 29));
    }

    private void replaced() {
        edges.same("20: it replaces what an earlier cut said", x -> x.cut(9), x -> {
            x.cut(0);
            x.cut(9);
        });
        edges.same("20: it replaces what an earlier cut said", x -> x.cut(0), x -> {
            x.cut(400);
            x.cut(0);
        });
        edges.same("20: n = -1: no failure is ahead", EdgeWritingTest::four, x -> {
            four(x);
            x.cut(0);
            x.cut(-1);
        });
        edges.same("20: the power does not matter", x -> {
            x.cut(5);
            x.power(false);
        }, x -> {
            x.power(false);
            x.cut(5);
        });
        edges.same("20: no failure is ahead, the power off", x -> x.power(false), x -> {
            x.cut(5);
            x.power(false);
            x.cut(-1);
        });
    }

    /** Words are counted by requests alone: the power going off and on takes none away and adds none. */
    private void powerDoesNotEndACut() {
        for (int n : new int[] {-1, 0, 1, 6, 7, 8, 14, 400}) {
            WriteOnceVault x = Edges.made(EdgeWritingTest::four);
            x.cut(n);
            due.is("20: cut(" + n + "), the power off", 6, x.power(false));
            due.is("20: cut(" + n + "), a request while it is off", OFF, x.extend(1, 30));
            due.is("20: cut(" + n + "), the power on", 6, x.power(true));
            due.is("20: cut(" + n + ") is ahead still", n, Edges.wordsLeft(x));
        }
        WriteOnceVault x = Edges.made(EdgeWritingTest::four);
        x.cut(10);
        due.is("20: seven of ten words", 0, x.extend(1, 30));
        x.power(false);
        x.power(true);
        due.is("20: three of ten words are left", 3, Edges.wordsLeft(x));
    }

    private void afterTheFailureNoneIsAhead() {
        for (int n = 0; n < 7; n++) {
            WriteOnceVault x = Edges.made(EdgeWritingTest::four);
            x.cut(n);
            due.is("20: the power fails when one after these is to be written", LOST, x.extend(1, 30));
            x.power(true);
            due.is("20: after that no failure is ahead", -1, Edges.wordsLeft(x));
        }
        WriteOnceVault x = Edges.made(EdgeWritingTest::four);
        x.cut(7);
        due.is("20: all words can be written", 0, x.extend(1, 30));
        due.is("20: the power is on until one more is to be written", 7, x.records());
        due.is("20: none can be written", 0, Edges.wordsLeft(x));
    }
}
