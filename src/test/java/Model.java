import java.util.ArrayList;
import java.util.List;

/**
 * The document once more, in its own recursive words and with no thought of cost: nothing is kept
 * but the image, the clock, the power, the cut and the fed words; all else is read from the image.
 */
final class Model {
    static final long NONE = 1L << 40;

    final int[] image = new int[292];
    int clock = 0;
    boolean on = true;
    int cut = -1;
    List<Integer> fed = new ArrayList<>();

    /** One object as the records made it. */
    static final class Thing {
        int state = 1;
        int date;
        int holds = 0;
        int record;
    }

    static int mix(int a, int b) {
        int rotated = (a << 11) | (a >>> 21);
        int y = (rotated ^ b) * 48271001 + 12345;
        return y ^ (y >>> 15);
    }

    static int node(int a, int b) {
        return mix(mix(2, a), b);
    }

    static int leafOf(int kind, int id, int value, int c0, int c1, int time) {
        return mix(mix(mix(mix(mix(mix(1, kind), id), value), c0), c1), time);
    }

    static int split(int c) {
        int k = 1;
        while (2 * k < c) {
            k *= 2;
        }
        return k;
    }

    int field(int r, int f) {
        return image[7 * r + f];
    }

    int leaf(int r) {
        return leafOf(field(r, 0), field(r, 1), field(r, 2), field(r, 3), field(r, 4), field(r, 5));
    }

    int tree(int f, int c) {
        if (c == 1) {
            return leaf(f);
        }
        int k = split(c);
        return node(tree(f, k), tree(f + k, c - k));
    }

    List<Integer> pathRow(int f, int i, int c) {
        List<Integer> row;
        if (c == 1) {
            row = new ArrayList<>();
            row.add(leaf(f));
            return row;
        }
        int k = split(c);
        if (i < k) {
            row = pathRow(f, i, k);
            row.add(tree(f + k, c - k));
        } else {
            row = pathRow(f + k, i - k, c - k);
            row.add(tree(f, k));
        }
        return row;
    }

    List<Integer> bridgeRow(int f, int m, int c, boolean full) {
        List<Integer> row;
        if (m == c) {
            row = new ArrayList<>();
            if (full) {
                row.add(tree(f, c));
            }
            return row;
        }
        int k = split(c);
        if (m <= k) {
            row = bridgeRow(f, m, k, full);
            row.add(tree(f + k, c - k));
        } else {
            row = bridgeRow(f + k, m - k, c - k, true);
            row.add(tree(f, k));
        }
        return row;
    }

    static int pathSize(int i, int c) {
        int k = split(c);
        return c == 1 ? 1 : 1 + (i < k ? pathSize(i, k) : pathSize(i - k, c - k));
    }

    static int bridgeSize(int m, int c, boolean full) {
        if (m == c) {
            return full ? 1 : 0;
        }
        int k = split(c);
        return 1 + (m <= k ? bridgeSize(m, k, full) : bridgeSize(m - k, c - k, true));
    }

    static int rise(List<Integer> words, int i, int n) {
        if (n == 1) {
            return words.get(0);
        }
        int w = words.get(words.size() - 1);
        List<Integer> others = words.subList(0, words.size() - 1);
        int k = split(n);
        return i < k ? node(rise(others, i, k), w) : node(w, rise(others, i - k, n - k));
    }

    static int[] span(List<Integer> words, int m, int c, boolean full, int early) {
        if (m == c) {
            int w = full ? words.get(0) : early;
            return new int[] {w, w};
        }
        int w = words.get(words.size() - 1);
        List<Integer> others = words.subList(0, words.size() - 1);
        int k = split(c);
        if (m <= k) {
            int[] pair = span(others, m, k, full, early);
            return new int[] {pair[0], node(pair[1], w)};
        }
        int[] pair = span(others, m - k, c - k, true, early);
        return new int[] {node(w, pair[0]), node(w, pair[1])};
    }

    static int rule(List<Thing> things, int records, int t, int kind, int id, int value) {
        Thing x = id >= 1 && id <= things.size() ? things.get(id - 1) : null;
        if ((kind == 1 || kind == 2) && (value < 0 || value > 1000000)) return -1;
        if ((kind == 3 || kind == 4) && (value < 0 || value > 7)) return -1;
        if (kind == 1 && value < t) return -4;
        if (kind == 1 && things.size() == 12) return -8;
        if (kind != 1 && x == null) return -2;
        if (kind >= 2 && kind <= 5 && x.state != 1) return -3;
        if (kind == 6 && x.state == 3) return -3;
        if (kind == 2 && value <= x.date) return -4;
        if (kind == 3 && (x.holds >> value & 1) == 1) return -5;
        if (kind == 4 && (x.holds >> value & 1) == 0) return -5;
        if (kind >= 5 && x.holds != 0) return -6;
        if (kind >= 5 && t < x.date) return -7;
        return records == 40 ? -8 : 0;
    }

    static void apply(List<Thing> things, int record, int kind, int id, int value) {
        if (kind == 1) {
            Thing x = new Thing();
            x.date = value;
            x.record = record;
            things.add(x);
            return;
        }
        Thing x = things.get(id - 1);
        if (kind == 2) x.date = value;
        if (kind == 3) x.holds += 1 << value;
        if (kind == 4) x.holds -= 1 << value;
        if (kind == 5) x.state = 2;
        if (kind == 6) x.state = 3;
    }

    /** Answers the number of sound records and fills in the objects that they make. */
    int sound(List<Thing> things) {
        int r = 0;
        while (r < 40) {
            int kind = field(r, 0), id = field(r, 1), value = field(r, 2), time = field(r, 5);
            if (field(r, 6) != (leaf(r) | 1)) break;
            if (kind < 1 || kind > 6) break;
            if (time < (r == 0 ? 0 : field(r - 1, 5)) || time > clock) break;
            if (kind != 1 && (field(r, 3) != 0 || field(r, 4) != 0)) break;
            if (kind >= 5 && value != 0) break;
            if (kind == 1 && id != things.size() + 1) break;
            if (rule(things, r, time, kind, id, value) != 0) break;
            apply(things, r, kind, id, value);
            r++;
        }
        return r;
    }

    boolean write(int at, int v) {
        if (cut == 0) {
            cut = -1;
            on = false;
            return false;
        }
        if (cut > 0) cut--;
        image[at] = v;
        return true;
    }

    int request(int kind, int id, int value, int a, int b, int key) {
        if (!on) return -10;
        List<Thing> things = new ArrayList<>();
        int r = sound(things);
        int no = rule(things, r, clock, kind, id, value);
        if (no != 0) return no;
        int n = kind == 1 ? things.size() + 1 : id;
        int c0 = kind == 1 ? a ^ mix(mix(key, n), 0) : 0;
        int c1 = kind == 1 ? b ^ mix(mix(key, n), 1) : 0;
        int[] w = {kind, n, value, c0, c1, clock, leafOf(kind, n, value, c0, c1, clock) | 1};
        if (kind == 1 && !write(279 + n, key)) return -9;
        for (int j = 0; j < 7; j++) {
            if (!write(7 * r + j, w[j])) return -9;
        }
        if (kind == 6 && !write(279 + n, 0)) return -9;
        return kind == 1 ? n : 0;
    }

    int tick(int n) {
        if (n < 0 || n > 1000) return -1;
        clock += n;
        return clock;
    }

    long get(int id, int j) {
        List<Thing> things = new ArrayList<>();
        sound(things);
        if (!on || id < 1 || id > things.size() || things.get(id - 1).state != 1 || j != 0 && j != 1) return NONE;
        return field(things.get(id - 1).record, 3 + j) ^ mix(mix(image[279 + id], id), j);
    }

    int look(int id, int what) {
        List<Thing> things = new ArrayList<>();
        sound(things);
        if (!on || id < 1 || id > things.size() || what < 0 || what > 2) return -1;
        Thing x = things.get(id - 1);
        return what == 0 ? x.state : what == 1 ? x.date : x.holds;
    }

    int records() {
        return on ? sound(new ArrayList<>()) : -1;
    }

    long root(int n) {
        if (!on || n < 0 || n > records()) return NONE;
        return n == 0 ? 0 : tree(0, n);
    }

    long path(int i, int n, int k) {
        if (!on || i < 0 || i >= n || n > records()) return NONE;
        List<Integer> row = pathRow(0, i, n);
        return k < 0 || k >= row.size() ? NONE : row.get(k);
    }

    long bridge(int m, int n, int k) {
        if (!on || m < 1 || m > n || n > records()) return NONE;
        List<Integer> row = bridgeRow(0, m, n, false);
        return k < 0 || k >= row.size() ? NONE : row.get(k);
    }

    boolean feed(int w) {
        return fed.size() < 12 && fed.add(w);
    }

    boolean included(int i, int n, int root) {
        List<Integer> words = fed;
        fed = new ArrayList<>();
        return i >= 0 && i < n && n <= 40 && words.size() == pathSize(i, n) && rise(words, i, n) == root;
    }

    boolean extended(int m, int n, int early, int late) {
        List<Integer> words = fed;
        fed = new ArrayList<>();
        if (m < 1 || m > n || n > 40 || words.size() != bridgeSize(m, n, false)) return false;
        int[] pair = span(words, m, n, false, early);
        return pair[0] == early && pair[1] == late;
    }

    long word(int at) {
        return at < 0 || at > 291 ? NONE : image[at];
    }

    boolean alter(int at, int v) {
        if (on || at < 0 || at > 291) return false;
        image[at] = v;
        return true;
    }

    int power(boolean to) {
        if (to == on) return -1;
        List<Thing> things = new ArrayList<>();
        int r = sound(things);
        on = to;
        if (!to) return r;
        for (int at = 7 * r; at < 280; at++) image[at] = 0;
        for (int id = 1; id <= 12; id++) {
            if (id > things.size() || things.get(id - 1).state == 3) image[279 + id] = 0;
        }
        return r;
    }

    boolean cut(int n) {
        if (n < -1 || n > 400) return false;
        cut = n;
        return true;
    }

    int audit(int n, int root) {
        int g = sound(new ArrayList<>());
        boolean right = n >= 0 && n <= g && (n == 0 ? 0 : tree(0, n)) == root;
        return right ? g : -1 - g;
    }
}
