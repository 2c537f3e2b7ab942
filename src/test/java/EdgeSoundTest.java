/**
 * The edges in what 'Terms' says of SOUND records, and of what becomes 0 when the power comes back
 * (promises 19 and 21 rest on them): each condition with the last record that is sound and the
 * first that is not, everything else about it being right.
 */
public final class EdgeSoundTest {
    private static final int PUT = 1, EXTEND = 2, HOLD = 3, RELEASE = 4, DELETE = 5, SHRED = 6;
    private static final int MAX = Integer.MAX_VALUE, MIN = Integer.MIN_VALUE;
    /** The records of archive(), and the one that the tests add. */
    private static final int R = 8;

    private final Due due;
    private final Edges edges;

    private EdgeSoundTest(Due due) {
        this.due = due;
        this.edges = new Edges(due);
    }

    public static void main(String[] args) {
        Due due = new Due("EdgeSoundTest");
        EdgeSoundTest test = new EdgeSoundTest(due);
        test.allBeforeItAre();
        test.aLaterOneIsNotSoundAlone();
        test.checkIsRight();
        test.kindIsOneToSix();
        test.timeIsNotBeforeTheOneBefore();
        test.timeIsNotBeyondTheClock();
        test.timeOfRecordZero();
        test.timeOfEveryOther();
        test.noWordsUnlessItIsAPut();
        test.valueOfDeleteAndShred();
        test.idOfAPut();
        test.rulesOfPut();
        test.rulesOfExtend();
        test.rulesOfHold();
        test.rulesOfRelease();
        test.rulesOfDelete();
        test.rulesOfShred();
        test.rulesAtItsTime();
        test.objectsAsTheRecordsBeforeMadeThem();
        test.twelveObjects();
        test.fortyRecords();
        test.asIfRequested();
        test.wordsOfOtherRecordsBecomeZero();
        test.keysThatBecomeZero();
        test.nothingIsWiped();
        due.end();
    }

    /**
     * Object 1 LIVE until 20 with hold 6, 2 LIVE until 4, 3 DELETED, 4 SHREDDED, 5 LIVE until 8;
     * the last TIME is 4, and the clock is at 10.
     */
    private static void archive(WriteOnceVault x) {
        x.tick(3);
        x.put(1, 2, 101, 20);
        x.put(3, 4, 102, 4);
        x.put(5, 6, 103, 3);
        x.put(7, 8, 104, 3);
        x.delete(3);
        x.shred(4);
        x.tick(1);
        x.put(9, 10, 105, 8);
        x.hold(1, 6, true);
        x.tick(6);
    }

    private static int[] six(int kind, int id, int value, int time) {
        return new int[] {kind, id, value, 0, 0, time};
    }

    /** Adds the record to the image; the power is off then. */
    private static Edges.Calls added(int[] six, int check) {
        return x -> {
            archive(x);
            x.power(false);
            Edges.forge(x, R, six, check);
        };
    }

    private void sound(String sentence, int[] six) {
        checkAdded("SOUND, " + sentence, six, Edges.leaf(six) | 1, true);
    }

    private void unsound(String sentence, int[] six) {
        checkAdded("SOUND, not: " + sentence, six, Edges.leaf(six) | 1, false);
    }

    private void checkAdded(String sentence, int[] six, int check, boolean sound) {
        String call = sentence + " " + java.util.Arrays.toString(six);
        int g = sound ? R + 1 : R;
        Edges.Calls forged = added(six, check);
        edges.answers(call + ", 21", forged, x -> x.audit(0, 0), g);
        edges.answers(call + ", 21", forged, x -> x.audit(0, 1), -1 - g);
        edges.answers(call + ", 19", forged, x -> x.power(true), g);
        Edges.Calls back = Edges.then(forged, x -> x.power(true));
        if (sound) {
            WriteOnceVault x = Edges.made(back);
            for (int j = 0; j < 6; j++) {
                due.is(call + ", word " + j + " stays", six[j], x.word(7 * R + j));
            }
            due.is(call + ", CHECK stays", check, x.word(7 * R + 6));
        } else {
            edges.same(call + ", all of it is gone", EdgeSoundTest::archive, back);
        }
    }

    private void allBeforeItAre() {
        for (int r = 0; r < R; r++) {
            for (int j = 0; j < 7; j++) {
                int record = r, at = 7 * r + j;
                Edges.Calls before = x -> {
                    archive(x);
                    x.power(false);
                    x.alter(at, (int) x.word(at) ^ 256);
                };
                String sentence = "SOUND when all before it are: word " + j + " of record " + r + " is altered";
                edges.answers(sentence, before, x -> x.audit(0, 0), record);
                edges.answers(sentence, before, x -> x.power(true), record);
            }
        }
    }

    private void aLaterOneIsNotSoundAlone() {
        Edges.Calls gap = x -> {
            archive(x);
            x.power(false);
            int[] record = six(HOLD, 2, 1, 10);
            Edges.forge(x, R + 1, record, Edges.leaf(record) | 1);
        };
        edges.answers("SOUND when all before it are: a gap", gap, x -> x.audit(0, 0), R);
        edges.same("SOUND when all before it are: what is behind a gap becomes 0", EdgeSoundTest::archive,
            Edges.then(gap, x -> x.power(true)));
        Edges.Calls again = x -> {
            archive(x);
            x.power(false);
            int first = (int) x.word(0);
            x.alter(0, 0);
            x.alter(0, first);
        };
        edges.same("SOUND: a word that is as it was", EdgeSoundTest::archive, Edges.then(again, x -> x.power(true)));
    }

    private void checkIsRight() {
        int[] six = six(HOLD, 2, 1, 10);
        int right = Edges.leaf(six) | 1;
        for (int bit = 0; bit < 32; bit++) {
            checkAdded("SOUND, its CHECK is right, bit " + bit, six, right ^ (1 << bit), false);
        }
        checkAdded("SOUND, its CHECK is right, 0", six, 0, false);
        checkAdded("SOUND, its CHECK is right", six, right, true);
    }

    private void kindIsOneToSix() {
        for (int kind : new int[] {0, 7, 8, -1, MAX, MIN}) {
            unsound("KIND is 1 .. 6", six(kind, 2, 0, 10));
            unsound("KIND is 1 .. 6", six(kind, 6, 10, 10));
        }
        sound("KIND is 1 .. 6", six(PUT, 6, 10, 10));
        sound("KIND is 1 .. 6", six(EXTEND, 2, 5, 10));
        sound("KIND is 1 .. 6", six(HOLD, 2, 0, 10));
        sound("KIND is 1 .. 6", six(RELEASE, 1, 6, 10));
        sound("KIND is 1 .. 6", six(DELETE, 2, 0, 10));
        sound("KIND is 1 .. 6", six(SHRED, 2, 0, 10));
        edges.answers("SOUND, not: a record of zeros", EdgeSoundTest::archive, x -> x.audit(0, 0), R);
        int zeros = Edges.leaf(six(0, 0, 0, 0)) | 1;
        checkAdded("SOUND, KIND is 1 .. 6, zeros", six(0, 0, 0, 0), zeros, false);
    }

    private void timeIsNotBeforeTheOneBefore() {
        for (int time : new int[] {3, 0, -1, MIN}) {
            unsound("TIME is not less than that of record r - 1", six(HOLD, 2, 0, time));
            unsound("TIME is not less than that of record r - 1", six(PUT, 6, 10, time));
        }
        for (int time : new int[] {4, 5, 9}) {
            sound("TIME is not less than that of record r - 1", six(HOLD, 2, 0, time));
            sound("TIME is not less than that of record r - 1", six(PUT, 6, 10, time));
        }
    }

    private void timeIsNotBeyondTheClock() {
        sound("TIME is not greater than the clock", six(HOLD, 2, 0, 10));
        for (int time : new int[] {11, 12, MAX}) {
            unsound("TIME is not greater than the clock", six(HOLD, 2, 0, time));
        }
        int[] six = six(HOLD, 2, 0, 11);
        Edges.Calls forged = added(six, Edges.leaf(six) | 1);
        edges.answers("SOUND, the clock has come to its TIME", Edges.then(forged, x -> x.tick(1)), x -> x.power(true), R + 1);
        edges.answers("SOUND, the clock has come to its TIME", Edges.then(forged, x -> x.tick(1)), x -> x.audit(0, 0), R + 1);
        edges.answers("SOUND, not: the clock has not", Edges.then(forged, x -> x.tick(0)), x -> x.power(true), R);
    }

    private static Edges.Calls alone(int clock, int[] six) {
        return x -> {
            x.tick(clock);
            x.power(false);
            Edges.forge(x, 0, six, Edges.leaf(six) | 1);
        };
    }

    private void timeOfRecordZero() {
        for (int clock : new int[] {0, 1, 5}) {
            for (int time : new int[] {MIN, -1, 0, 1, 4, 5, 6, MAX}) {
                int g = 0 <= time && time <= clock ? 1 : 0;
                Edges.Calls forged = alone(clock, six(PUT, 1, 9, time));
                String sentence = "SOUND, TIME " + time + " of record 0 at the clock " + clock;
                edges.answers(sentence, forged, x -> x.audit(0, 0), g);
                edges.answers(sentence, forged, x -> x.power(true), g);
            }
        }
        for (int kind = EXTEND; kind <= SHRED; kind++) {
            edges.answers("SOUND, not: record 0 is no PUT", alone(5, six(kind, 1, 0, 0)), x -> x.power(true), 0);
        }
    }

    /** The records before are all of the time 5, and the clock is at 7. */
    private void timeOfEveryOther() {
        for (int r = 1; r < 40; r++) {
            for (int time = 3; time <= 9; time++) {
                int record = r;
                int[] six = six(HOLD, 1, 0, time);
                Edges.Calls forged = x -> {
                    x.tick(5);
                    x.put(1, 2, 3, 5);
                    Edges.fillTo(x, record);
                    x.tick(2);
                    x.power(false);
                    Edges.forge(x, record, six, Edges.leaf(six) | 1);
                };
                int g = 5 <= time && time <= 7 ? r + 1 : r;
                edges.answers("SOUND, TIME " + time + " of record " + r, forged, x -> x.audit(0, 0), g);
                edges.answers("SOUND, TIME " + time + " of record " + r, forged, x -> x.power(true), g);
            }
        }
    }

    /** Of each kind but PUT a record that is sound. */
    private static final int[][] CHANGES = {
        {EXTEND, 2, 5, 10}, {HOLD, 2, 0, 10}, {RELEASE, 1, 6, 10}, {DELETE, 2, 0, 10}, {SHRED, 2, 0, 10}};

    private void noWordsUnlessItIsAPut() {
        for (int[] c : CHANGES) {
            for (int w : new int[] {1, -1, MIN}) {
                unsound("C0 and C1 are 0 unless it is a PUT", new int[] {c[0], c[1], c[2], w, 0, c[3]});
                unsound("C0 and C1 are 0 unless it is a PUT", new int[] {c[0], c[1], c[2], 0, w, c[3]});
                unsound("C0 and C1 are 0 unless it is a PUT", new int[] {c[0], c[1], c[2], w, w, c[3]});
            }
            sound("C0 and C1 are 0", six(c[0], c[1], c[2], c[3]));
        }
        for (int w : new int[] {0, 1, -1, MIN, MAX}) {
            sound("C0 and C1 of a PUT", new int[] {PUT, 6, 10, w, 0, 10});
            sound("C0 and C1 of a PUT", new int[] {PUT, 6, 10, 0, w, 10});
        }
    }

    private void valueOfDeleteAndShred() {
        for (int kind = DELETE; kind <= SHRED; kind++) {
            for (int value : new int[] {1, -1, 10, MAX, MIN}) {
                unsound("VALUE is 0 if it is a DELETE or SHRED", six(kind, 2, value, 10));
            }
            sound("VALUE is 0 if it is a DELETE or SHRED", six(kind, 2, 0, 10));
        }
    }

    private void idOfAPut() {
        for (int id : new int[] {5, 7, 0, 1, -6, 12, 13, MAX, MIN}) {
            unsound("ID is the number of objects so far plus 1 if it is a PUT", six(PUT, id, 10, 10));
        }
        sound("ID is the number of objects so far plus 1 if it is a PUT", six(PUT, 6, 10, 10));
        for (int id : new int[] {0, 2, -1}) {
            edges.answers("SOUND, not: ID " + id + " of the first PUT", alone(0, six(PUT, id, 9, 0)), x -> x.power(true), 0);
        }
    }

    private void rulesOfPut() {
        unsound("PUT, BAD", six(PUT, 6, -1, 10));
        unsound("PUT, BAD", six(PUT, 6, 1000001, 10));
        sound("PUT, the last date", six(PUT, 6, 1000000, 10));
        edges.answers("SOUND, PUT, the first date", alone(0, six(PUT, 1, 0, 0)), x -> x.power(true), 1);
        edges.answers("SOUND, not: PUT, BAD at 0", alone(0, six(PUT, 1, -1, 0)), x -> x.power(true), 0);
        unsound("PUT, SHORT", six(PUT, 6, 9, 10));
    }

    private void rulesOfExtend() {
        unsound("EXTEND, BAD", six(EXTEND, 1, -1, 10));
        unsound("EXTEND, BAD", six(EXTEND, 1, 1000001, 10));
        sound("EXTEND, the last date", six(EXTEND, 1, 1000000, 10));
        for (int id : new int[] {0, 6, -1, 12, 13, MAX, MIN}) {
            unsound("EXTEND, ABSENT", six(EXTEND, id, 30, 10));
        }
        unsound("EXTEND, GONE", six(EXTEND, 3, 30, 10));
        unsound("EXTEND, GONE", six(EXTEND, 4, 30, 10));
        unsound("EXTEND, SHORT", six(EXTEND, 1, 19, 10));
        unsound("EXTEND, SHORT", six(EXTEND, 1, 20, 10));
        sound("EXTEND, not SHORT", six(EXTEND, 1, 21, 10));
        sound("EXTEND, not SHORT, though before its TIME", six(EXTEND, 2, 5, 10));
    }

    private void rulesOfHold() {
        for (int number : new int[] {-1, 8, 32, 33, MAX, MIN}) {
            unsound("HOLD, BAD", six(HOLD, 2, number, 10));
        }
        sound("HOLD, the first number", six(HOLD, 2, 0, 10));
        sound("HOLD, the last number", six(HOLD, 2, 7, 10));
        for (int id : new int[] {0, 6, -1, 12, 13, MAX, MIN}) {
            unsound("HOLD, ABSENT", six(HOLD, id, 1, 10));
        }
        unsound("HOLD, GONE", six(HOLD, 3, 1, 10));
        unsound("HOLD, GONE", six(HOLD, 4, 1, 10));
        unsound("HOLD, SAME", six(HOLD, 1, 6, 10));
        sound("HOLD, not SAME", six(HOLD, 1, 5, 10));
        sound("HOLD, not SAME", six(HOLD, 1, 7, 10));
        sound("HOLD, not SAME on another object", six(HOLD, 2, 6, 10));
    }

    private void rulesOfRelease() {
        for (int number : new int[] {-1, 8, 38, MAX, MIN}) {
            unsound("RELEASE, BAD", six(RELEASE, 1, number, 10));
        }
        for (int id : new int[] {0, 6, -1, 12, 13, MAX, MIN}) {
            unsound("RELEASE, ABSENT", six(RELEASE, id, 6, 10));
        }
        unsound("RELEASE, GONE", six(RELEASE, 3, 6, 10));
        unsound("RELEASE, GONE", six(RELEASE, 4, 6, 10));
        unsound("RELEASE, SAME", six(RELEASE, 1, 5, 10));
        unsound("RELEASE, SAME", six(RELEASE, 1, 7, 10));
        unsound("RELEASE, SAME on another object", six(RELEASE, 2, 6, 10));
        sound("RELEASE, not SAME", six(RELEASE, 1, 6, 10));
    }

    private void rulesOfDelete() {
        for (int id : new int[] {0, 6, -1, 12, 13, MAX, MIN}) {
            unsound("DELETE, ABSENT", six(DELETE, id, 0, 10));
        }
        unsound("DELETE, GONE", six(DELETE, 3, 0, 10));
        unsound("DELETE, GONE", six(DELETE, 4, 0, 10));
        unsound("DELETE, HELD", six(DELETE, 1, 0, 10));
        unsound("DELETE, EARLY", six(DELETE, 5, 0, 7));
        sound("DELETE, not EARLY", six(DELETE, 5, 0, 8));
        sound("DELETE, not EARLY", six(DELETE, 5, 0, 9));
    }

    private void rulesOfShred() {
        for (int id : new int[] {0, 6, -1, 12, 13, MAX, MIN}) {
            unsound("SHRED, ABSENT", six(SHRED, id, 0, 10));
        }
        unsound("SHRED, GONE", six(SHRED, 4, 0, 10));
        sound("SHRED, not GONE", six(SHRED, 3, 0, 10));
        unsound("SHRED, HELD", six(SHRED, 1, 0, 10));
        unsound("SHRED, EARLY", six(SHRED, 5, 0, 7));
        sound("SHRED, not EARLY", six(SHRED, 5, 0, 8));
        sound("SHRED, not EARLY", six(SHRED, 5, 0, 9));
    }

    /** The clock is at 10 in each of these. */
    private void rulesAtItsTime() {
        sound("the rules at its TIME: a PUT until its TIME", six(PUT, 6, 5, 5));
        unsound("the rules at its TIME: a PUT until before its TIME", six(PUT, 6, 4, 5));
        unsound("the rules at its TIME: a DELETE before the date", six(DELETE, 5, 0, 4));
        unsound("the rules at its TIME: a SHRED before the date", six(SHRED, 5, 0, 4));
    }

    /** Adds two records; the second is sound only because of the first. */
    private void pair(String sentence, int[] first, int[] second, int want) {
        Edges.Calls forged = x -> {
            archive(x);
            x.power(false);
            Edges.forge(x, R, first, Edges.leaf(first) | 1);
            Edges.forge(x, R + 1, second, Edges.leaf(second) | 1);
        };
        edges.answers("SOUND, as the records before made them, " + sentence, forged, x -> x.audit(0, 0), R + want);
        edges.answers("SOUND, as the records before made them, " + sentence, forged, x -> x.power(true), R + want);
    }

    private void objectsAsTheRecordsBeforeMadeThem() {
        pair("a hold on a new object", six(PUT, 6, 10, 10), six(HOLD, 6, 1, 10), 2);
        pair("a second PUT", six(PUT, 6, 10, 10), six(PUT, 7, 10, 10), 2);
        pair("a second PUT of the same", six(PUT, 6, 10, 10), six(PUT, 6, 10, 10), 1);
        pair("an extend, then a later one", six(EXTEND, 1, 25, 10), six(EXTEND, 1, 26, 10), 2);
        pair("an extend, then the same", six(EXTEND, 1, 25, 10), six(EXTEND, 1, 25, 10), 1);
        pair("a hold twice", six(HOLD, 2, 1, 10), six(HOLD, 2, 1, 10), 1);
        pair("a hold, then its release", six(HOLD, 2, 1, 10), six(RELEASE, 2, 1, 10), 2);
        pair("a hold, then a delete", six(HOLD, 2, 1, 10), six(DELETE, 2, 0, 10), 1);
        pair("a release twice", six(RELEASE, 1, 6, 10), six(RELEASE, 1, 6, 10), 1);
        pair("a release, then a hold", six(RELEASE, 1, 6, 10), six(HOLD, 1, 6, 10), 2);
        pair("a delete, then a shred", six(DELETE, 2, 0, 10), six(SHRED, 2, 0, 10), 2);
        pair("a delete twice", six(DELETE, 2, 0, 10), six(DELETE, 2, 0, 10), 1);
        pair("a shred, then a delete", six(SHRED, 2, 0, 10), six(DELETE, 2, 0, 10), 1);
        pair("a shred twice", six(SHRED, 2, 0, 10), six(SHRED, 2, 0, 10), 1);
        pair("an extend, then a delete", six(EXTEND, 2, 11, 10), six(DELETE, 2, 0, 10), 1);
        pair("TIME as the one before", six(HOLD, 2, 1, 9), six(HOLD, 2, 2, 9), 2);
        pair("TIME before the one before", six(HOLD, 2, 1, 9), six(HOLD, 2, 2, 8), 1);
        pair("the first is not sound", six(HOLD, 2, 8, 10), six(HOLD, 2, 2, 10), 0);
    }

    private void twelveObjects() {
        for (int there = 11; there <= 12; there++) {
            int count = there;
            int[] next = six(PUT, count + 1, 5, 0);
            Edges.Calls forged = x -> {
                for (int n = 1; n <= count; n++) {
                    x.put(n, n, 100 + n, 5);
                }
                x.power(false);
                Edges.forge(x, count, next, Edges.leaf(next) | 1);
            };
            edges.answers("SOUND, FULL: twelve objects, object " + (count + 1), forged, x -> x.audit(0, 0), 12);
            edges.answers("SOUND, FULL: twelve objects, object " + (count + 1), forged, x -> x.power(true), 12);
        }
    }

    private void fortyRecords() {
        Edges.Calls last = x -> {
            archive(x);
            Edges.fillTo(x, 39);
            x.power(false);
            int[] record = six(HOLD, 2, 7, 10);
            Edges.forge(x, 39, record, Edges.leaf(record) | 1);
        };
        edges.answers("SOUND, record 39", last, x -> x.audit(0, 0), 40);
        edges.answers("SOUND, record 39", last, x -> x.power(true), 40);
        WriteOnceVault x = Edges.made(Edges.then(last, y -> y.power(true)));
        due.is("SOUND, record 39: what it made", 128, x.look(2, 2));
        due.is("SOUND, record 39: FULL", -8, x.hold(2, 6, true));
        due.is("SOUND, record 39: the first key is no record", 101, x.word(280));
    }

    /** A record that was put into the image is as good as the request that would have written it. */
    private void asIfRequested() {
        for (int[] c : CHANGES) {
            int[] six = six(c[0], c[1], c[2], c[3]);
            edges.same("The archive consists of the sound records, kind " + c[0], x -> {
                archive(x);
                Edges.request(x, c[0], c[1], c[2]);
            }, Edges.then(added(six, Edges.leaf(six) | 1), x -> x.power(true)));
        }
        int[] put = {PUT, 6, 11, 7 ^ Model.mix(Model.mix(9, 6), 0), 8 ^ Model.mix(Model.mix(9, 6), 1), 10};
        edges.same("The archive consists of the sound records, a PUT", x -> {
            archive(x);
            x.put(7, 8, 9, 11);
        }, Edges.then(added(put, Edges.leaf(put) | 1), x -> {
            x.alter(285, 9);
            x.power(true);
        }));
    }

    private void wordsOfOtherRecordsBecomeZero() {
        for (int g = 0; g <= 40; g++) {
            int sound = g;
            Edges.Calls forged = x -> {
                x.put(1, 2, 55, 5);
                Edges.fillTo(x, sound);
                x.power(false);
                for (int at = 7 * sound; at < 280; at++) {
                    x.alter(at, -1);
                }
            };
            WriteOnceVault whole = Edges.made(forged);
            WriteOnceVault x = Edges.made(forged);
            String sentence = "the words of all other records become 0, " + g + " are sound";
            due.is(sentence, g, x.power(true));
            for (int at = 0; at < 280; at += at < 7 * g - 7 || at > 7 * g + 7 && at < 272 ? 7 : 1) {
                due.is(sentence + ", word " + at, at < 7 * g ? whole.word(at) : 0, x.word(at));
            }
            due.is(sentence + ", the key", g == 0 ? 0 : 55, x.word(280));
        }
    }

    private void keysThatBecomeZero() {
        Edges.Calls before = x -> {
            archive(x);
            x.power(false);
            for (int id = 1; id <= 12; id++) {
                x.alter(279 + id, -id);
            }
            x.power(true);
        };
        WriteOnceVault x = Edges.made(before);
        for (int id = 1; id <= 12; id++) {
            boolean kept = id <= 5 && id != 4;
            due.is("the keys of objects that are not there or are SHREDDED become 0: " + id, kept ? -id : 0, x.word(279 + id));
        }
        Edges.Calls onlyPut = y -> {
            y.put(1, 2, 55, 0);
            y.shred(1);
            y.power(false);
            y.alter(280, 66);
            y.alter(7, 5);
        };
        x = Edges.made(onlyPut);
        due.is("keys: the shred is not sound", 1, x.power(true));
        due.is("keys: so the object is LIVE", 1, x.look(1, 0));
        due.is("keys: and its key stays as the image has it", 66, x.word(280));
        Edges.Calls twelve = y -> {
            for (int n = 1; n <= 12; n++) {
                y.put(n, n, 100 + n, 0);
            }
            y.shred(12);
            y.power(false);
            y.alter(291, 7);
            y.alter(290, 8);
        };
        x = Edges.made(twelve);
        due.is("keys: before the power comes back", 7, x.word(291));
        x.power(true);
        due.is("keys: the last one, SHREDDED", 0, x.word(291));
        due.is("keys: the one before, LIVE", 8, x.word(290));
    }

    private void nothingIsWiped() {
        edges.same("power off and on, all records sound", EdgeSoundTest::archive, x -> {
            archive(x);
            x.power(false);
            x.power(true);
        });
        Edges.Calls full = x -> {
            archive(x);
            Edges.fillTo(x, 40);
        };
        edges.same("power off and on, forty records sound", full, Edges.then(full, x -> {
            x.power(false);
            x.power(true);
        }));
        edges.same("power off and on, none", x -> { }, x -> {
            x.power(false);
            x.power(true);
        });
    }
}
