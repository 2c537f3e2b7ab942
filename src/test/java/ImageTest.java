/** Promises 17 to 21: word, alter, power, cut, audit. */
public final class ImageTest {
    private static final long NONE = 1L << 40;
    private static final int[] NO_PLACES = {-1, 292, Integer.MAX_VALUE, Integer.MIN_VALUE};

    private final Due due;

    private ImageTest(Due due) {
        this.due = due;
    }

    public static void main(String[] args) {
        Due due = new Due("ImageTest");
        ImageTest test = new ImageTest(due);
        test.words();
        test.alters();
        test.powers();
        test.powerWipes();
        test.powerKeepsAll();
        test.soundness();
        test.soundnessOfRules();
        test.thirteenthObjectIsNotSound();
        test.fortyAreSound();
        test.cuts();
        test.audits();
        due.end();
    }

    private static WriteOnceVault small() {
        WriteOnceVault x = new WriteOnceVault();
        x.put(1, 2, 31, 5);
        x.put(3, 4, 32, 0);
        x.hold(1, 6, true);
        x.tick(10);
        return x;
    }

    private void words() {
        WriteOnceVault x = small();
        due.is("17: KIND", 1, x.word(0));
        due.is("17: ID", 2, x.word(8));
        due.is("17: KIND of a hold", 3, x.word(14));
        due.is("17: VALUE of a hold", 6, x.word(16));
        due.is("17: an empty key", 0, x.word(291));
        due.is("17: between records and keys", 0, x.word(279));
        for (int at : NO_PLACES) {
            due.is("17: at " + at, NONE, x.word(at));
        }
        x.power(false);
        due.is("17: off", 1, x.word(0));
        due.is("17: off, a key", 31, x.word(280));
        x.alter(291, -7);
        due.is("17: altered", -7, x.word(291));
        for (int at : NO_PLACES) {
            due.is("17: off, at " + at, NONE, x.word(at));
        }
    }

    private void alters() {
        WriteOnceVault x = small();
        due.no("18: on", x.alter(0, 9));
        due.is("18: on, unchanged", 1, x.word(0));
        x.power(false);
        for (int at : NO_PLACES) {
            due.no("18: off, at " + at, x.alter(at, 1));
        }
        // In halves, as an object is used for at most 512 calls.
        for (int first = 0; first < 292; first += 146) {
            x = allAltered();
            for (int at = first; at < first + 146; at++) {
                due.is("18: altered, " + at, at * 31 - 5, x.word(at));
            }
            x = allAltered();
            due.is("19: nothing sound is left", 0, x.power(true));
            for (int at = first; at < first + 146; at++) {
                due.is("19: wiped, " + at, 0, x.word(at));
            }
        }
    }

    private WriteOnceVault allAltered() {
        WriteOnceVault x = small();
        x.power(false);
        for (int at = 0; at < 292; at++) {
            due.yes("18: off, " + at, x.alter(at, at * 31 - 5));
        }
        return x;
    }

    private void powers() {
        WriteOnceVault x = new WriteOnceVault();
        due.is("19: on already", -1, x.power(true));
        due.is("19: off, empty", 0, x.power(false));
        due.is("19: off already", -1, x.power(false));
        due.is("19: on, empty", 0, x.power(true));
        x = small();
        due.is("19: off", 3, x.power(false));
        due.is("19: off already", -1, x.power(false));
        x.alter(6, 0);
        due.is("19: -1 changes nothing", -1, x.power(false));
        due.is("19: the rest is still there", 1, x.word(7));
        due.is("19: on, none are sound", 0, x.power(true));
        due.is("19: off, had none", 0, x.power(false));
        due.is("19: power on answers -1 when on", 0, x.power(true));
        due.is("19: on already", -1, x.power(true));
        due.is("19: puts begin again", 1, x.put(1, 1, 1, 10));
    }

    private void powerWipes() {
        WriteOnceVault x = small();
        x.delete(2);
        x.put(5, 6, 33, 10);
        x.shred(3);
        x.power(false);
        x.alter(282, 5);
        x.alter(283, 6);
        x.alter(279, 0);
        x.alter(50, 8);
        due.is("19: back", 6, x.power(true));
        due.is("19: key of a live one", 31, x.word(280));
        due.is("19: key of a deleted one", 32, x.word(281));
        due.is("19: key of a shredded one", 0, x.word(282));
        due.is("19: key of none", 0, x.word(283));
        due.is("19: behind the records", 0, x.word(50));
        x.power(false);
        x.alter(279, 8);
        x.power(true);
        due.is("19: word 279 is CHECK of record 39", 0, x.word(279));
        x.power(false);
        x.alter(21, 2);
        due.is("19: from record 3 on", 3, x.power(true));
        for (int at = 21; at < 280; at++) {
            due.is("19: wiped " + at, 0, x.word(at));
        }
        due.is("19: not deleted any more", 1, x.look(2, 0));
        due.is("19: no third object", -1, x.look(3, 0));
    }

    private void powerKeepsAll() {
        WriteOnceVault x = small();
        x.extend(1, 77);
        x.delete(2);
        long root = x.root(5);
        x.power(false);
        x.tick(3);
        due.is("19: back", 5, x.power(true));
        due.is("19: root", root, x.root(5));
        due.is("19: date", 77, x.look(1, 1));
        due.is("19: holds", 64, x.look(1, 2));
        due.is("19: state", 2, x.look(2, 0));
        due.is("19: word", 2, x.get(1, 1));
        due.is("19: clock", 13, x.tick(0));
        due.is("19: the next number", 3, x.put(7, 7, 7, 13));
        due.is("19: its word", 7, x.get(3, 0));
        due.is("19: its record", 13, x.word(40));
    }

    /** Writes record 3 of the small archive, with a right CHECK, and answers what is sound then. */
    private static int forged(int kind, int id, int value, int c0, int c1, int time) {
        return forgedAt(small(), 3, new int[] {kind, id, value, c0, c1, time}, 0);
    }

    private static int forgedAt(WriteOnceVault x, int r, int[] six, int spoil) {
        x.power(false);
        for (int j = 0; j < 6; j++) {
            x.alter(7 * r + j, six[j]);
        }
        int check = Model.leafOf(six[0], six[1], six[2], six[3], six[4], six[5]) | 1;
        x.alter(7 * r + 6, check ^ spoil);
        int seen = x.audit(0, 0);
        int back = x.power(true);
        return seen == back ? back : -100 - seen;
    }

    private void soundness() {
        due.is("sound: a put", 4, forged(1, 3, 10, 5, 6, 10));
        due.is("sound: a put without words", 4, forged(1, 3, 10, 0, 0, 10));
        due.is("sound: ID of a put too great", 3, forged(1, 4, 10, 5, 6, 10));
        due.is("sound: ID of a put too small", 3, forged(1, 2, 10, 5, 6, 10));
        due.is("sound: an extend", 4, forged(2, 1, 6, 0, 0, 10));
        due.is("sound: C0", 3, forged(2, 1, 6, 1, 0, 10));
        due.is("sound: C1", 3, forged(2, 1, 6, 0, 1, 10));
        due.is("sound: TIME as before", 4, forged(2, 1, 6, 0, 0, 0));
        due.is("sound: TIME below 0", 3, forged(2, 1, 6, 0, 0, -1));
        due.is("sound: TIME above the clock", 3, forged(2, 1, 6, 0, 0, 11));
        due.is("sound: a hold", 4, forged(3, 2, 0, 0, 0, 5));
        due.is("sound: a release", 4, forged(4, 1, 6, 0, 0, 5));
        due.is("sound: a delete", 4, forged(5, 2, 0, 0, 0, 5));
        due.is("sound: VALUE of a delete", 3, forged(5, 2, 1, 0, 0, 5));
        due.is("sound: a shred", 4, forged(6, 2, 0, 0, 0, 5));
        due.is("sound: VALUE of a shred", 3, forged(6, 2, -1, 0, 0, 5));
        for (int kind : new int[] {0, 7, -1, Integer.MAX_VALUE, Integer.MIN_VALUE}) {
            due.is("sound: KIND " + kind, 3, forged(kind, 2, 0, 0, 0, 5));
        }
        for (int bit = 0; bit < 32; bit++) {
            int[] six = {3, 2, 0, 0, 0, 5};
            due.is("sound: CHECK, bit " + bit, 3, forgedAt(small(), 3, six, 1 << bit));
        }
        due.is("sound: a gap before it", 3, forgedAt(small(), 4, new int[] {3, 2, 0, 0, 0, 5}, 0));
        due.is("sound: record 0 before 0", 0, forgedAt(small(), 0, new int[] {1, 1, 5, 0, 0, -1}, 0));
        due.is("sound: record 0 at 0", 3, forgedAt(small(), 0, new int[] {1, 1, 5, 0, 0, 0}, 0));
        due.is("sound: record 1 is earlier than 0", 1, forgedAt(small(), 0, new int[] {1, 1, 5, 0, 0, 3}, 0));
    }

    private void soundnessOfRules() {
        due.is("rules: put BAD", 3, forged(1, 3, 1000001, 0, 0, 10));
        due.is("rules: put SHORT at its TIME", 3, forged(1, 3, 7, 0, 0, 8));
        due.is("rules: put not SHORT at its TIME", 4, forged(1, 3, 7, 0, 0, 7));
        due.is("rules: extend BAD", 3, forged(2, 1, 1000001, 0, 0, 10));
        due.is("rules: extend ABSENT", 3, forged(2, 3, 6, 0, 0, 10));
        due.is("rules: extend SHORT", 3, forged(2, 1, 5, 0, 0, 10));
        due.is("rules: hold BAD", 3, forged(3, 1, 8, 0, 0, 10));
        due.is("rules: hold BAD", 3, forged(3, 1, -1, 0, 0, 10));
        due.is("rules: hold ABSENT", 3, forged(3, 0, 1, 0, 0, 10));
        due.is("rules: hold SAME", 3, forged(3, 1, 6, 0, 0, 10));
        due.is("rules: release SAME", 3, forged(4, 2, 6, 0, 0, 10));
        due.is("rules: delete ABSENT", 3, forged(5, Integer.MIN_VALUE, 0, 0, 0, 10));
        due.is("rules: delete HELD", 3, forged(5, 1, 0, 0, 0, 10));
        due.is("rules: shred HELD", 3, forged(6, 1, 0, 0, 0, 10));
        WriteOnceVault x = small();
        x.hold(1, 6, false);
        x.power(false);
        x.tick(10);
        due.is("rules: EARLY at the clock is not asked", 5, forgedLater(x, 15));
        x = new WriteOnceVault();
        x.put(1, 1, 1, 5);
        x.tick(10);
        due.is("rules: delete EARLY at its TIME", 1, forgedAt(x, 1, new int[] {5, 1, 0, 0, 0, 4}, 0));
        due.is("rules: delete at its TIME", 2, forgedAt(x, 1, new int[] {5, 1, 0, 0, 0, 5}, 0));
        due.is("rules: delete GONE", 2, forgedAt(x, 2, new int[] {5, 1, 0, 0, 0, 5}, 0));
        due.is("rules: extend GONE", 2, forgedAt(x, 2, new int[] {2, 1, 50, 0, 0, 5}, 0));
        due.is("rules: shred before", 2, forgedAt(x, 2, new int[] {6, 1, 0, 0, 0, 4}, 0));
        due.is("rules: key of a deleted one", 1, x.word(280));
        due.is("rules: shred", 3, forgedAt(x, 2, new int[] {6, 1, 0, 0, 0, 5}, 0));
        due.is("rules: key of one shredded in the image", 0, x.word(280));
        due.is("rules: shred GONE", 3, forgedAt(x, 3, new int[] {6, 1, 0, 0, 0, 5}, 0));
    }

    private static int forgedLater(WriteOnceVault x, int time) {
        return forgedAt(x, 4, new int[] {5, 1, 0, 0, 0, time}, 0);
    }

    private void thirteenthObjectIsNotSound() {
        WriteOnceVault x = new WriteOnceVault();
        for (int n = 1; n <= 12; n++) {
            x.put(n, n, n, 5);
        }
        due.is("sound: a thirteenth object", 12, forgedAt(x, 12, new int[] {1, 13, 5, 0, 0, 0}, 0));
        due.is("sound: object 13", 12, forgedAt(x, 12, new int[] {3, 13, 5, 0, 0, 0}, 0));
        due.is("sound: object 12", 13, forgedAt(x, 12, new int[] {3, 12, 5, 0, 0, 0}, 0));
        due.is("sound: the twelfth key", 12, x.word(291));
    }

    private void fortyAreSound() {
        WriteOnceVault x = new WriteOnceVault();
        x.put(1, 1, 9, 0);
        for (int n = 1; n < 40; n++) {
            x.extend(1, n);
        }
        int root = (int) x.root(40);
        due.is("21: forty", 40, x.audit(40, root));
        due.is("21: forty-one", -41, x.audit(41, root));
        due.is("19: forty, off", 40, x.power(false));
        due.is("19: forty, on", 40, x.power(true));
        due.is("19: the date of the last one", 39, x.look(1, 1));
        x.power(false);
        x.alter(279, (int) x.word(279) ^ 2);
        due.is("19: without the last one", 39, x.power(true));
        due.is("19: the date before it", 38, x.look(1, 1));
        due.is("19: room for one more", 0, x.extend(1, 100));
        due.is("19: forty again", 40, x.records());
    }

    private void cuts() {
        WriteOnceVault x = new WriteOnceVault();
        for (int n : new int[] {-2, 401, Integer.MAX_VALUE, Integer.MIN_VALUE}) {
            due.no("20: " + n, x.cut(n));
        }
        due.is("20: wrong ones change nothing", 1, x.put(1, 1, 1, 0));
        due.yes("20: 0", x.cut(0));
        due.no("20: a wrong one", x.cut(401));
        due.is("20: at the first word", -9, x.put(1, 1, 8, 0));
        due.is("20: not even the key", 0, x.word(281));
        due.is("20: off", -1, x.records());
        due.is("20: on again", 1, x.power(true));
        due.is("20: no failure ahead", 2, x.put(1, 1, 8, 0));
        due.yes("20: 10", x.cut(10));
        due.yes("20: -1 takes it back", x.cut(-1));
        due.is("20: hold", 0, x.hold(1, 1, true));
        due.is("20: hold", 0, x.hold(1, 2, true));
        due.yes("20: 3", x.cut(3));
        due.yes("20: 14 replaces it", x.cut(14));
        due.is("20: seven of 14", 0, x.hold(1, 3, true));
        due.is("20: off does not count", 5, x.power(false));
        due.is("20: wiping does not count", 5, x.power(true));
        due.is("20: all of 14", 0, x.hold(1, 4, true));
        due.is("20: still on", 6, x.records());
        due.is("20: one after these", -9, x.hold(1, 5, true));
        due.yes("20: off, 2", x.cut(2));
        due.is("20: on", 6, x.power(true));
        due.is("20: it still counts", -9, x.hold(1, 5, true));
        due.is("20: two words", 3, x.word(42));
        due.is("20: two words", 1, x.word(43));
        due.is("20: not a third", 0, x.word(44));
        due.is("20: on", 6, x.power(true));
        due.is("20: the two are wiped", 0, x.word(42));
        due.yes("20: 400", x.cut(400));
        due.is("20: far off", 0, x.hold(1, 5, true));
    }

    private void audits() {
        WriteOnceVault x = small();
        int[] roots = {0, (int) x.root(1), (int) x.root(2), (int) x.root(3)};
        for (int turn = 0; turn < 2; turn++) {
            for (int n = 0; n <= 3; n++) {
                due.is("21: " + n, 3, x.audit(n, roots[n]));
                due.is("21: " + n + ", another root", -4, x.audit(n, roots[n] + 1));
            }
            for (int n : new int[] {-1, 4, 41, Integer.MAX_VALUE, Integer.MIN_VALUE}) {
                due.is("21: " + n, -4, x.audit(n, 0));
            }
            x.power(false);
        }
        x.alter(14, 4);
        due.is("21: two are sound", 2, x.audit(2, roots[2]));
        due.is("21: not three", -3, x.audit(3, roots[3]));
        due.is("21: it changes nothing", 4, x.word(14));
        x.alter(14, 3);
        due.is("21: three again", 3, x.audit(3, roots[3]));
        x.alter(281, 5);
        x.alter(290, 5);
        due.is("21: keys do not matter", 3, x.audit(3, roots[3]));
        due.is("21: it wipes no key", 5, x.word(290));
        x.alter(6, 0);
        due.is("21: none", 0, x.audit(0, 0));
        due.is("21: none, another root", -1, x.audit(0, 1));
        due.is("21: none, n = 1", -1, x.audit(1, roots[1]));
        due.is("21: the power stays off", -1, x.power(false));
        x = small();
        x.audit(3, 0);
        due.is("21: objects stay", 64, x.look(1, 2));
        due.is("21: records stay", 3, x.records());
        x.feed(1);
        x.cut(7);
        x.audit(0, 0);
        due.is("21: the cut stays", 0, x.extend(1, 11));
        due.is("21: the cut stays", -9, x.extend(1, 12));
        due.yes("21: fed words stay", x.included(0, 1, 1));
    }
}
