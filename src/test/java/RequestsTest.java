/** Promises 1 to 6: a new object, put, extend, hold, delete, shred. */
public final class RequestsTest {
    private static final int BAD = -1, ABSENT = -2, GONE = -3, SHORT = -4, SAME = -5;
    private static final int HELD = -6, EARLY = -7, FULL = -8, LOST = -9, OFF = -10;
    private static final int[] NO_IDS = {0, -1, 2, 12, 13, 40, Integer.MAX_VALUE, Integer.MIN_VALUE};
    private static final int[] NO_DATES = {-1, 1000001, Integer.MAX_VALUE, Integer.MIN_VALUE};

    public static void main(String[] args) {
        Due due = new Due("RequestsTest");
        newObject(due);
        putAnswers(due);
        putWrites(due);
        putEdges(due);
        extendAnswers(due);
        holdAnswers(due);
        deleteAnswers(due);
        shredAnswers(due);
        orderOfRules(due);
        fortyRecords(due);
        everyWordCanBeLost(due);
        offBeforeAllElse(due);
        refusedChangesNothing(due);
        due.end();
    }

    private static void newObject(Due due) {
        WriteOnceVault x = new WriteOnceVault();
        due.is("1: records", 0, x.records());
        due.is("1: root(0)", 0, x.root(0));
        due.is("1: root(1)", 1L << 40, x.root(1));
        due.is("1: look", -1, x.look(1, 0));
        due.is("1: clock", 0, x.tick(0));
        due.is("1: power is on", -1, x.power(true));
        due.is("1: audit", 0, x.audit(0, 0));
        for (int at = 0; at < 292; at++) {
            due.is("1: word " + at, 0, x.word(at));
        }
        due.yes("1: no words fed", x.extended(1, 1, 5, 5));
        for (int n = 1; n <= 12; n++) {
            due.is("1: no failure ahead", n, x.put(n, n, n, n));
        }
        due.is("1: another one is empty, too", 0, new WriteOnceVault().records());
    }

    private static void putAnswers(Due due) {
        WriteOnceVault x = new WriteOnceVault();
        due.is("2: the first number", 1, x.put(-5, Integer.MIN_VALUE, 9, 0));
        due.is("2: the second number", 2, x.put(7, 8, 0, 1000000));
        due.is("2: word 0", -5, x.get(1, 0));
        due.is("2: word 1", Integer.MIN_VALUE, x.get(1, 1));
        due.is("2: word 0 of the second", 7, x.get(2, 0));
        due.is("2: state", 1, x.look(1, 0));
        due.is("2: date", 0, x.look(1, 1));
        due.is("2: the greatest date", 1000000, x.look(2, 1));
        due.is("2: holds", 0, x.look(1, 2));
        due.is("2: records", 2, x.records());
        for (int date : NO_DATES) {
            due.is("2: date " + date, BAD, x.put(1, 1, 1, date));
        }
        due.is("2: records after refusals", 2, x.records());
    }

    private static void putWrites(Due due) {
        WriteOnceVault x = new WriteOnceVault();
        x.tick(3);
        x.put(100, 200, 77, 9);
        x.tick(2);
        x.put(-1, -2, -3, 10);
        int[] words = {1, 2, 10, -1 ^ Model.mix(Model.mix(-3, 2), 0), -2 ^ Model.mix(Model.mix(-3, 2), 1), 5};
        for (int j = 0; j < 6; j++) {
            due.is("2: word " + j + " of the record", words[j], x.word(7 + j));
        }
        int leaf = Model.leafOf(words[0], words[1], words[2], words[3], words[4], words[5]);
        due.is("2: CHECK", leaf | 1, x.word(13));
        due.is("2: the first key", 77, x.word(280));
        due.is("2: the second key", -3, x.word(281));
        due.is("2: nothing behind", 0, x.word(14));
        due.is("2: TIME of the first", 3, x.word(5));
    }

    private static void putEdges(Due due) {
        WriteOnceVault x = new WriteOnceVault();
        x.tick(10);
        due.is("2: before the clock", SHORT, x.put(1, 1, 1, 9));
        due.is("2: date 0 is before the clock", SHORT, x.put(1, 1, 1, 0));
        for (int n = 1; n <= 12; n++) {
            due.is("2: at the clock", n, x.put(n, n, n, 10));
        }
        due.is("2: a thirteenth", FULL, x.put(1, 1, 1, 10));
        due.is("2: BAD before FULL", BAD, x.put(1, 1, 1, -1));
        due.is("2: SHORT before FULL", SHORT, x.put(1, 1, 1, 9));
        due.is("2: the last key", 12, x.word(291));
        x.shred(12);
        due.is("2: a shredded one still counts", FULL, x.put(1, 1, 1, 10));
    }

    private static void extendAnswers(Due due) {
        WriteOnceVault x = new WriteOnceVault();
        x.put(1, 2, 3, 50);
        due.is("3: the same date", SHORT, x.extend(1, 50));
        due.is("3: an earlier date", SHORT, x.extend(1, 49));
        due.is("3: date 0", SHORT, x.extend(1, 0));
        due.is("3: a later date", 0, x.extend(1, 51));
        due.is("3: the date", 51, x.look(1, 1));
        record(due, "3", x, 1, 2, 1, 51, 0);
        due.is("3: the greatest date", 0, x.extend(1, 1000000));
        for (int id : NO_IDS) {
            due.is("3: object " + id, ABSENT, x.extend(id, 60));
        }
        for (int date : NO_DATES) {
            due.is("3: date " + date, BAD, x.extend(1, date));
            due.is("3: BAD before ABSENT", BAD, x.extend(5, date));
        }
        due.is("3: records", 3, x.records());
        due.is("3: the words stay", 1, x.get(1, 0));
        x.put(1, 2, 3, 10);
        x.tick(20);
        due.is("3: a date that is over already", 0, x.extend(2, 11));
        due.is("3: that date", 11, x.look(2, 1));
    }

    private static void holdAnswers(Due due) {
        WriteOnceVault x = new WriteOnceVault();
        x.put(1, 2, 3, 0);
        x.put(1, 2, 3, 0);
        due.is("4: hold 0", 0, x.hold(1, 0, true));
        record(due, "4", x, 2, 3, 1, 0, 0);
        due.is("4: hold 7", 0, x.hold(1, 7, true));
        due.is("4: holds", 129, x.look(1, 2));
        due.is("4: holds of the other", 0, x.look(2, 2));
        due.is("4: again", SAME, x.hold(1, 7, true));
        due.is("4: release of none", SAME, x.hold(1, 3, false));
        due.is("4: release on the other", SAME, x.hold(2, 7, false));
        due.is("4: release", 0, x.hold(1, 7, false));
        record(due, "4", x, 4, 4, 1, 7, 0);
        due.is("4: holds after it", 1, x.look(1, 2));
        for (int number : new int[] {-1, 8, 32, 39, Integer.MAX_VALUE, Integer.MIN_VALUE}) {
            due.is("4: number " + number, BAD, x.hold(1, number, true));
            due.is("4: release " + number, BAD, x.hold(1, number, false));
            due.is("4: BAD before ABSENT", BAD, x.hold(9, number, true));
        }
        due.is("4: no such object", ABSENT, x.hold(3, 0, true));
        due.is("4: no object 0", ABSENT, x.hold(0, 0, false));
        due.is("4: no such object to release", ABSENT, x.hold(-1, 7, false));
        x.delete(2);
        due.is("4: deleted", GONE, x.hold(2, 1, true));
        due.is("4: GONE before SAME", GONE, x.hold(2, 1, false));
    }

    private static void deleteAnswers(Due due) {
        WriteOnceVault x = new WriteOnceVault();
        x.put(1, 2, 3, 5);
        for (int id : NO_IDS) {
            due.is("5: object " + id, ABSENT, x.delete(id));
        }
        x.hold(1, 2, true);
        due.is("5: HELD before EARLY", HELD, x.delete(1));
        x.hold(1, 2, false);
        due.is("5: at 0", EARLY, x.delete(1));
        x.tick(4);
        due.is("5: at 4", EARLY, x.delete(1));
        x.tick(1);
        due.is("5: at its date", 0, x.delete(1));
        record(due, "5", x, 3, 5, 1, 0, 5);
        due.is("5: state", 2, x.look(1, 0));
        due.is("5: its date stays", 5, x.look(1, 1));
        due.is("5: its key stays", 3, x.word(280));
        due.is("5: not to be read", 1L << 40, x.get(1, 0));
        due.is("5: again", GONE, x.delete(1));
        due.is("5: not to be extended", GONE, x.extend(1, 100));
    }

    private static void shredAnswers(Due due) {
        WriteOnceVault x = new WriteOnceVault();
        x.put(1, 2, 3, 5);
        x.put(1, 2, 4, 5);
        for (int id : new int[] {0, -1, 3, Integer.MAX_VALUE, Integer.MIN_VALUE}) {
            due.is("6: object " + id, ABSENT, x.shred(id));
        }
        x.hold(1, 2, true);
        due.is("6: HELD before EARLY", HELD, x.shred(1));
        x.hold(1, 2, false);
        x.tick(4);
        due.is("6: at 4", EARLY, x.shred(1));
        x.tick(1);
        due.is("6: a live one", 0, x.shred(1));
        record(due, "6", x, 4, 6, 1, 0, 5);
        due.is("6: state", 3, x.look(1, 0));
        due.is("6: its key", 0, x.word(280));
        due.is("6: not to be read", 1L << 40, x.get(1, 0));
        due.is("6: again", GONE, x.shred(1));
        due.is("6: not to be deleted", GONE, x.delete(1));
        due.is("6: not to be held", GONE, x.hold(1, 0, true));
        due.is("6: not to be extended", GONE, x.extend(1, 100));
        due.is("6: delete the other", 0, x.delete(2));
        due.is("6: a deleted one", 0, x.shred(2));
        due.is("6: its state", 3, x.look(2, 0));
        due.is("6: the other key", 0, x.word(281));
        due.is("6: records", 7, x.records());
    }

    private static void orderOfRules(Due due) {
        WriteOnceVault x = new WriteOnceVault();
        x.put(1, 2, 3, 0);
        x.delete(1);
        due.is("3: BAD before GONE", BAD, x.extend(1, -1));
        due.is("3: GONE before SHORT", GONE, x.extend(1, 0));
        due.is("4: BAD before GONE", BAD, x.hold(1, 8, true));
        due.is("2: BAD before SHORT", BAD, x.put(1, 1, 1, -7));
    }

    private static void fortyRecords(Due due) {
        WriteOnceVault x = new WriteOnceVault();
        x.put(1, 2, 3, 0);
        x.put(1, 2, 4, 9);
        for (int n = 2; n < 40; n++) {
            due.is("forty: record " + n, 0, x.hold(2, 5, n % 2 == 0));
        }
        due.is("forty: records", 40, x.records());
        due.is("forty: put", FULL, x.put(1, 1, 1, 1));
        due.is("forty: extend", FULL, x.extend(2, 10));
        due.is("forty: hold", FULL, x.hold(2, 5, true));
        due.is("forty: delete", FULL, x.delete(1));
        due.is("forty: shred", FULL, x.shred(1));
        due.is("forty: put BAD first", BAD, x.put(1, 1, 1, -1));
        due.is("forty: extend SHORT first", SHORT, x.extend(2, 9));
        due.is("forty: hold SAME first", SAME, x.hold(2, 5, false));
        due.is("forty: delete EARLY first", EARLY, x.delete(2));
        due.is("forty: shred ABSENT first", ABSENT, x.shred(3));
        due.is("forty: key of the first stays", 3, x.word(280));
        due.is("forty: no third key", 0, x.word(282));
        due.is("forty: all are sound", -41, x.audit(40, 1));
    }

    private static void everyWordCanBeLost(Due due) {
        for (int kind = 1; kind <= 6; kind++) {
            int words = kind == 1 || kind == 6 ? 8 : 7;
            for (int n = 0; n <= words; n++) {
                loseAfter(due, kind, n, words);
            }
        }
    }

    private static void loseAfter(Due due, int kind, int n, int words) {
        String run = "kind " + kind + " cut after " + n + ": ";
        WriteOnceVault x = new WriteOnceVault();
        Model whole = new Model();
        x.put(1, 2, 3, 0);
        whole.request(1, 0, 0, 1, 2, 3);
        x.put(4, 5, 6, 0);
        whole.request(1, 0, 0, 4, 5, 6);
        x.hold(2, 1, true);
        whole.request(3, 2, 1, 0, 0, 0);
        int[] before = whole.image.clone();
        x.cut(n);
        int id = kind == 4 ? 2 : 1;
        int value = kind == 1 || kind == 2 ? 9 : kind == 3 || kind == 4 ? 1 : 0;
        int done = whole.request(kind, id, value, 7, 8, 9);
        due.is(run + "answer", n < words ? LOST : done, ask(x, kind, id, value));
        due.is(run + "records", n < words ? -1 : 4, x.records());
        int[] order = new int[8];
        for (int j = 0; j < 7; j++) {
            order[kind == 1 ? j + 1 : j] = 21 + j;
        }
        order[kind == 1 ? 0 : 7] = 279 + (kind == 1 ? 3 : id);
        for (int j = 0; j < words; j++) {
            due.is(run + "word " + j, j < n ? whole.image[order[j]] : before[order[j]], x.word(order[j]));
        }
        boolean stands = n >= 8 || n == 7 && kind != 1;
        due.is(run + "back", n < words ? stands ? 4 : 3 : -1, x.power(true));
        due.is(run + "no failure ahead after one", n < words ? 0 : LOST, x.extend(2, 1000));
    }

    private static int ask(WriteOnceVault x, int kind, int id, int value) {
        switch (kind) {
            case 1: return x.put(7, 8, 9, value);
            case 2: return x.extend(id, value);
            case 3: return x.hold(id, value, true);
            case 4: return x.hold(id, value, false);
            case 5: return x.delete(id);
            default: return x.shred(id);
        }
    }

    private static void offBeforeAllElse(Due due) {
        WriteOnceVault x = new WriteOnceVault();
        x.put(1, 2, 3, 0);
        x.power(false);
        for (int kind = 1; kind <= 6; kind++) {
            due.is("off: kind " + kind, OFF, ask(x, kind, 1, 1));
            due.is("off: kind " + kind + " with wrong inputs", OFF, ask(x, kind, -1, -1));
        }
        due.is("off: nothing was written", 0, x.word(7));
        due.is("off: no key was written", 0, x.word(281));
        due.is("off: back", 1, x.power(true));
    }

    private static void refusedChangesNothing(Due due) {
        WriteOnceVault x = new WriteOnceVault();
        x.put(1, 2, 3, 5);
        x.hold(1, 1, true);
        x.cut(7);
        due.is("refused put", BAD, x.put(1, 1, 1, -1));
        due.is("refused extend", SHORT, x.extend(1, 5));
        due.is("refused hold", SAME, x.hold(1, 1, true));
        due.is("refused delete", HELD, x.delete(1));
        due.is("refused shred", HELD, x.shred(1));
        due.is("refused: records", 2, x.records());
        due.is("refused: no key", 0, x.word(281));
        for (int at = 14; at < 280; at++) {
            due.is("refused: word " + at, 0, x.word(at));
        }
        due.is("refused: no word was counted", 0, x.extend(1, 6));
        due.is("refused: the next one is", LOST, x.extend(1, 7));
    }

    private static void record(Due due, String promise, WriteOnceVault x, int r, int kind, int id, int value, int time) {
        int[] words = {kind, id, value, 0, 0, time, Model.leafOf(kind, id, value, 0, 0, time) | 1};
        for (int j = 0; j < 7; j++) {
            due.is(promise + ": word " + j + " of record " + r, words[j], x.word(7 * r + j));
        }
    }
}
