import java.util.Random;

/** Long runs of calls, from fixed seeds, on the class and on the model: every answer is the same. */
public final class ModelTest {
    private static final int RUNS = 2000;
    private static final int MOST_CALLS = 512;
    private static final int MOST_CALLS_OF_A_STEP = 40;

    private final Due due;
    private final Random random;
    private final int seed;
    private final WriteOnceVault vault = new WriteOnceVault();
    private final Model model = new Model();
    private int calls = 0;

    private ModelTest(Due due, int seed) {
        this.due = due;
        this.seed = seed;
        this.random = new Random(seed);
    }

    public static void main(String[] args) {
        Due due = new Due("ModelTest");
        for (int seed = 0; seed < RUNS && due.wrongs() < 20; seed++) {
            new ModelTest(due, seed).run();
        }
        due.end();
    }

    private void run() {
        boolean readAll = seed % 3 == 0;
        int steps = MOST_CALLS - MOST_CALLS_OF_A_STEP - (readAll ? 294 : 0);
        while (calls < steps) {
            step();
        }
        for (int at = -1; at <= 292 && readAll; at++) {
            same("word at the end", model.word(at), vault.word(at));
        }
        due.yes("seed " + seed + ", at most 512 calls", calls <= MOST_CALLS);
    }

    private void same(String call, long want, long got) {
        calls++;
        due.is("seed " + seed + ", call " + calls + ", " + call, want, got);
    }

    private void same(String call, boolean want, boolean got) {
        same(call, want ? 1L : 0L, got ? 1L : 0L);
    }

    private int upTo(int n) {
        return random.nextInt(n + 1);
    }

    private int id() {
        return upTo(20) == 0 ? random.nextInt() : upTo(13);
    }

    /** Runs of different seeds have different tempers, so that some fill up and some are often cut. */
    private void step() {
        int temper = seed % 4;
        int dice = upTo(99);
        if (dice < 12) put();
        else if (dice < 32) change();
        else if (dice < 40) tick(temper);
        else if (dice < 60) read();
        else if (dice < 70) proof();
        else if (dice < 80) tree();
        else if (dice < 84) cut(temper);
        else if (dice < 88) power(temper);
        else if (dice < 94) outage(temper);
        else audit();
    }

    private void put() {
        int a = random.nextInt(), b = random.nextInt(), key = random.nextInt();
        int date = upTo(9) == 0 ? 1000000 + upTo(2) - 1 : model.clock + upTo(40) - 5;
        if (upTo(19) == 0) date = upTo(2) - 1;
        same("put", model.request(1, 0, date, a, b, key), vault.put(a, b, key, date));
    }

    private void change() {
        int id = id();
        int kind = upTo(9);
        if (kind < 3) {
            int date = upTo(9) == 0 ? 1000000 + upTo(2) - 1 : model.look(id, 1) + upTo(6) - 2;
            same("extend", model.request(2, id, date, 0, 0, 0), vault.extend(id, date));
        } else if (kind < 5) {
            int number = upTo(10) - 1;
            same("hold", model.request(3, id, number, 0, 0, 0), vault.hold(id, number, true));
        } else if (kind < 8) {
            int held = model.look(id, 2);
            int number = held > 0 ? Integer.numberOfTrailingZeros(held) : upTo(10) - 1;
            same("release", model.request(4, id, number, 0, 0, 0), vault.hold(id, number, false));
        } else if (kind < 9) {
            same("delete", model.request(5, id, 0, 0, 0, 0), vault.delete(id));
        } else {
            same("shred", model.request(6, id, 0, 0, 0, 0), vault.shred(id));
        }
    }

    private void tick(int temper) {
        int n = upTo(9) == 0 ? upTo(1003) - 1 : upTo(temper == 3 ? 40 : 8);
        same("tick", model.tick(n), vault.tick(n));
    }

    private void read() {
        int id = id(), j = upTo(3) - 1, what = upTo(4) - 1, at = upTo(293) - 1;
        same("get", model.get(id, j), vault.get(id, j));
        same("look", model.look(id, what), vault.look(id, what));
        same("word", model.word(at), vault.word(at));
        same("records", model.records(), vault.records());
    }

    private void tree() {
        int top = Math.max(model.records(), 0);
        int n = upTo(top + 2) - 1, i = upTo(Math.max(n, 0) + 1) - 1, k = upTo(9) - 1;
        same("root", model.root(n), vault.root(n));
        same("path", model.path(i, n, k), vault.path(i, n, k));
        same("bridge", model.bridge(i, n, k), vault.bridge(i, n, k));
    }

    private void feed(int w) {
        same("feed", model.feed(w), vault.feed(w));
    }

    private void proof() {
        int top = model.records();
        int n = top > 0 && upTo(4) > 0 ? 1 + upTo(top - 1) : upTo(43) - 1;
        int i = upTo(Math.max(n, 0) + 1) - 1;
        boolean leaf = random.nextBoolean();
        feedRow(leaf, i, n);
        int early = (int) model.root(i), late = (int) model.root(n);
        if (upTo(9) == 0) early++;
        if (upTo(9) == 0) late++;
        if (leaf) {
            same("included", model.included(i, n, late), vault.included(i, n, late));
        } else {
            same("extended", model.extended(i, n, early, late), vault.extended(i, n, early, late));
        }
    }

    private void feedRow(boolean leaf, int i, int n) {
        int spoilt = upTo(20);
        for (int k = 0; k < 12; k++) {
            long w = leaf ? model.path(i, n, k) : model.bridge(i, n, k);
            if (w == Model.NONE) break;
            feed(spoilt == k ? (int) w + 1 : (int) w);
        }
        if (upTo(9) == 0) feed(random.nextInt());
        if (upTo(30) == 0) {
            for (int k = 0; k < 13; k++) feed(k);
        }
    }

    private void cut(int temper) {
        int n = temper == 0 ? -1 : temper == 1 ? upTo(20) : upTo(404) - 2;
        same("cut", model.cut(n), vault.cut(n));
    }

    private void power(int temper) {
        boolean on = upTo(temper == 0 ? 9 : 3) > 0;
        same("power", model.power(on), vault.power(on));
    }

    /** The power goes off, some of the image is altered, and the power comes back. */
    private void outage(int temper) {
        same("power off", model.power(false), vault.power(false));
        if (temper != 0 || upTo(5) == 0) {
            int way = upTo(9);
            if (way < 6) forgeNext();
            else if (way < 8) alter(280 + upTo(11), random.nextInt());
            else if (way < 9) alter(upTo(293) - 1, upTo(7));
        }
        audit();
        if (upTo(9) == 0) put();
        same("power on", model.power(true), vault.power(true));
        same("records", model.records(), vault.records());
    }

    private void alter(int at, int v) {
        same("alter", model.alter(at, v), vault.alter(at, v));
    }

    /** A record with a right CHECK behind the sound ones, good or wrong in one thing. */
    private void forgeNext() {
        java.util.List<Model.Thing> things = new java.util.ArrayList<>();
        int r = model.sound(things);
        if (r == 40) return;
        int kind = 1 + upTo(5);
        int before = r == 0 ? 0 : model.field(r - 1, 5);
        int time = before + upTo(Math.max(model.clock - before, 0));
        int id = kind == 1 ? things.size() + 1 : 1 + upTo(things.size());
        int value = kind == 1 ? time + upTo(9) : kind == 2 ? time + upTo(60) : kind < 5 ? upTo(7) : 0;
        int c0 = kind == 1 ? random.nextInt() : 0, c1 = c0, spoil = 0;
        switch (upTo(14)) {
            case 0: kind = 7 * upTo(1); break;
            case 1: time = before - 1; break;
            case 2: time = model.clock + 1; break;
            case 3: c0 = 1; break;
            case 4: c1 = 1; break;
            case 5: value = 1; break;
            case 6: id += 1; break;
            case 7: id -= 1; break;
            case 8: spoil = 1 << upTo(31); break;
            case 9: value = -1; break;
            case 10: value = 1000001; break;
            case 11: time = model.clock; break;
            default: break;
        }
        int[] w = {kind, id, value, c0, c1, time, (Model.leafOf(kind, id, value, c0, c1, time) | 1) ^ spoil};
        for (int j = 0; j < 7; j++) alter(7 * r + j, w[j]);
    }

    private void audit() {
        int g = model.sound(new java.util.ArrayList<>());
        int n = upTo(g + 2) - 1;
        int root = n > 0 && n <= g ? model.tree(0, n) : 0;
        if (upTo(9) == 0) root++;
        same("audit", model.audit(n, root), vault.audit(n, root));
    }
}
