/** Promises 7 to 10: tick, get, look, records. */
public final class ReadingTest {
    private static final long NONE = 1L << 40;
    private static final int[] FAR = {-1, 0, 3, 12, 13, 14, 1 << 20, Integer.MAX_VALUE, Integer.MIN_VALUE};

    public static void main(String[] args) {
        Due due = new Due("ReadingTest");
        ticks(due);
        gets(due);
        getsUnderAnotherKey(due);
        looks(due);
        counts(due);
        due.end();
    }

    private static void ticks(Due due) {
        WriteOnceVault x = new WriteOnceVault();
        due.is("7: by 0", 0, x.tick(0));
        due.is("7: by 1", 1, x.tick(1));
        due.is("7: by 1000", 1001, x.tick(1000));
        for (int n : new int[] {-1, 1001, Integer.MAX_VALUE, Integer.MIN_VALUE}) {
            due.is("7: by " + n, -1, x.tick(n));
        }
        due.is("7: as it was", 1001, x.tick(0));
        x.power(false);
        due.is("7: off", 1006, x.tick(5));
        due.is("7: off, wrong", -1, x.tick(1001));
        x.power(true);
        due.is("7: on again", 1006, x.tick(0));
        due.is("7: requests see it", WriteOnceVault.SHORT, x.put(1, 1, 1, 1005));
        due.is("7: requests see it", 1, x.put(1, 1, 1, 1006));
        due.is("7: records have it", 1006, x.word(5));
    }

    private static WriteOnceVault three() {
        WriteOnceVault x = new WriteOnceVault();
        x.put(11, -12, 5, 0);
        x.hold(1, 4, true);
        x.put(21, Integer.MAX_VALUE, -6, 3);
        x.hold(1, 0, true);
        return x;
    }

    private static void gets(Due due) {
        WriteOnceVault x = three();
        due.is("8: 1, 0", 11, x.get(1, 0));
        due.is("8: 1, 1", -12, x.get(1, 1));
        due.is("8: 2, 0", 21, x.get(2, 0));
        due.is("8: 2, 1", Integer.MAX_VALUE, x.get(2, 1));
        for (int j : new int[] {-1, 2, 3, Integer.MAX_VALUE, Integer.MIN_VALUE}) {
            due.is("8: word " + j, NONE, x.get(1, j));
        }
        for (int id : FAR) {
            due.is("8: object " + id, NONE, x.get(id, 0));
        }
        x.power(false);
        due.is("8: off", NONE, x.get(1, 0));
        x.power(true);
        due.is("8: on again", 11, x.get(1, 0));
        x.tick(3);
        x.delete(2);
        due.is("8: deleted", NONE, x.get(2, 0));
        x.shred(2);
        due.is("8: shredded", NONE, x.get(2, 0));
    }

    private static void getsUnderAnotherKey(Due due) {
        WriteOnceVault x = three();
        x.power(false);
        x.alter(281, 99);
        x.power(true);
        for (int j = 0; j < 2; j++) {
            int sealed = (int) x.word(17 + j);
            due.is("8: under another key", sealed ^ Model.mix(Model.mix(99, 2), j), x.get(2, j));
        }
        due.differs("8: under another key", 21, x.get(2, 0));
        due.is("8: the other object", 11, x.get(1, 0));
    }

    private static void looks(Due due) {
        WriteOnceVault x = three();
        due.is("9: state", 1, x.look(1, 0));
        due.is("9: date", 3, x.look(2, 1));
        due.is("9: holds", 17, x.look(1, 2));
        for (int n = 0; n < 8; n++) {
            x.hold(2, n, true);
        }
        due.is("9: all holds", 255, x.look(2, 2));
        for (int what : new int[] {-1, 3, Integer.MAX_VALUE, Integer.MIN_VALUE}) {
            due.is("9: what " + what, -1, x.look(1, what));
        }
        for (int id : FAR) {
            due.is("9: object " + id, -1, x.look(id, 0));
        }
        x.power(false);
        for (int what = 0; what < 3; what++) {
            due.is("9: off", -1, x.look(1, what));
        }
        x.power(true);
        due.is("9: holds come back", 17, x.look(1, 2));
        x.hold(1, 4, false);
        x.hold(1, 0, false);
        x.extend(1, 8);
        x.tick(8);
        x.delete(1);
        due.is("9: deleted", 2, x.look(1, 0));
        due.is("9: date of a deleted one", 8, x.look(1, 1));
        due.is("9: holds of a deleted one", 0, x.look(1, 2));
        x.shred(1);
        due.is("9: shredded", 3, x.look(1, 0));
        due.is("9: date of a shredded one", 8, x.look(1, 1));
    }

    private static void counts(Due due) {
        WriteOnceVault x = new WriteOnceVault();
        due.is("10: none", 0, x.records());
        for (int n = 1; n <= 40; n++) {
            int done = n == 1 ? x.put(1, 1, 1, 0) : x.extend(1, n);
            due.is("10: request " + n, n == 1 ? 1 : 0, done);
            due.is("10: after request " + n, n, x.records());
        }
        x.extend(1, 500);
        due.is("10: at most forty", 40, x.records());
        x.power(false);
        due.is("10: off", -1, x.records());
        x.power(true);
        due.is("10: on again", 40, x.records());
    }
}
