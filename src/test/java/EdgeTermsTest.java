import java.util.List;

/**
 * The edges in 'Terms' that have to do with digests: DIGESTS, IMAGE, LEAF, CHECK, TREE, PATH and
 * BRIDGE. The numbers written out here were worked out apart from class and model, with integers
 * that do not wrap, modulo 2^32.
 */
public final class EdgeTermsTest {
    private static final long NONE = 1L << 40;
    private static final int MAX = Integer.MAX_VALUE, MIN = Integer.MIN_VALUE;

    /** a, b, node(a, b). */
    private static final int[][] NODES = {
        {0, 0, 1045360693}, {1, 2, -1440003231}, {2, 1, -938955361}, {-1, -1, -295061321},
        {MAX, MIN, 1149075848}, {MIN, MAX, -2070419428}, {0, MIN, -1102057419}, {MIN, 0, -125238855},
        {-1, MAX, 1852356791}};
    /** key, mix(mix(key, 1), 0), mix(mix(key, 1), 1); rotating brings bit 20 to 31 and bit 21 to 0. */
    private static final int[][] PADS = {
        {0, -454156761, -502362815}, {1, 877882949, 926153499}, {-1, 1759871976, 1711542144},
        {MAX, 2125537434, -2121044042}, {MIN, 2089944324, 2138272861}, {1 << 20, 791307692, 743044556},
        {1 << 21, -478052552, -429880816}};
    private static final int[] ROOTS = {
        0, -208053931, -581704903, -851687902, 1782290879, 816353291, -1900421297, 1336063742, -294860929,
        334765893, -1529409367, 1797159554, -696231539, 2047122351, 413518163, -1851072229, -1712243787,
        -1092130680, 1202810583, 1238933460, 1706527475, -268736220, 1157316114, 31631430, 1200254679,
        30133263, -1449552000, -223360470, 940034204, 1109414011, -2042029196, 1554342944, 897063318,
        -377934356, -476223922, 1726187212, -1816207860, 993927433, -1676928854, 1040608318, -972243103};
    /** At n: all PATH(i, n), with their lengths, in one number. */
    private static final int[] PATHS = {
        0, -208053900, -245143464, -924299484, 855596484, -598473316, -1731841572, -2072899092, -1253885600,
        -668738068, 894182564, -1409434908, -15751608, 1564032878, -1705886386, 555740167, -1705113586,
        -1001116816, -2103159474, 2019104742, -1417874010, -2016349385, -946101756, -177006669, 1073357054,
        -1565118743, 717106622, 1237427120, 1736179214, 1459711059, 802974114, 1351482991, 1372419732,
        -740064676, -395963180, 479721313, -502273000, -1848856670, 342052438, 1671410101, 826586492};
    /** At n: all plain BRIDGE(m, n), with their lengths, in one number. */
    private static final int[] BRIDGES = {
        0, 0, 1248149592, -1988410230, -584105986, 2043421862, -247962143, -242938603, 953518388, 2050166838,
        1663585390, 1325713368, 1051456534, 1384881673, 9524346, -819250016, 2035365051, -174596913,
        -255487899, -1687913921, 1560411997, 2052668938, 1139738912, -1789437444, -1739454690, 73437786,
        -2103766309, -657146447, -1580781442, 186542833, 813074084, -926448322, 443578744, 1684770180,
        -1340032961, -1959863687, -1821930912, -1821871408, -1533959362, 2103024228, -1231507491};

    private final Due due;

    private EdgeTermsTest(Due due) {
        this.due = due;
    }

    public static void main(String[] args) {
        Due due = new Due("EdgeTermsTest");
        EdgeTermsTest test = new EdgeTermsTest(due);
        test.nodesWrap();
        test.mixesWrap();
        test.placesOfTheImage();
        test.placesOfTheLastRecord();
        test.placesOfTheKeys();
        test.checkOfAnEvenAndAnOddLeaf();
        test.leafIsOfSixWords();
        test.trees();
        test.pathOfOne();
        test.pathsOnBothSidesOfK();
        test.bridgeOfAll();
        test.bridgesOnBothSidesOfK();
        test.everyRow();
        due.end();
    }

    private void nodesWrap() {
        for (int[] n : NODES) {
            WriteOnceVault x = new WriteOnceVault();
            x.feed(n[0]);
            x.feed(n[1]);
            due.yes("DIGESTS, their arithmetic wraps: node(" + n[0] + ", " + n[1] + ")", x.included(0, 2, n[2]));
        }
    }

    private void mixesWrap() {
        for (int[] p : PADS) {
            String call = "DIGESTS, their arithmetic wraps: a put under the key " + p[0];
            WriteOnceVault x = new WriteOnceVault();
            x.put(0, 0, p[0], 0);
            due.is(call + ", C0", p[1], x.word(3));
            due.is(call + ", C1", p[2], x.word(4));
            x = new WriteOnceVault();
            x.put(MIN, MAX, p[0], 0);
            due.is(call + ", C0 of the least word", p[1] ^ MIN, x.word(3));
            due.is(call + ", C1 of the greatest word", p[2] ^ MAX, x.word(4));
            due.is(call + ", the least word", MIN, x.get(1, 0));
            due.is(call + ", the greatest word", MAX, x.get(1, 1));
        }
    }

    private void placesOfTheImage() {
        String sentence = "IMAGE, 292 words, at first 0: word ";
        for (int at = 0; at < 292; at++) {
            due.is(sentence + at, 0, new WriteOnceVault().word(at));
        }
        due.is(sentence + "-1", NONE, new WriteOnceVault().word(-1));
        due.is(sentence + "292", NONE, new WriteOnceVault().word(292));
    }

    /** Forty records, all different. */
    private static void forty(WriteOnceVault x) {
        for (int n = 0; n < 12; n++) {
            x.put(n, -n, 100 + n, 50);
        }
        for (int n = 12; n < 40; n++) {
            x.tick(1);
            x.extend(n % 12 + 1, 50 + n);
        }
    }

    private void placesOfTheLastRecord() {
        WriteOnceVault x = Edges.made(EdgeTermsTest::forty);
        int[] last = {2, 4, 89, 0, 0, 28};
        for (int j = 0; j < 6; j++) {
            due.is("IMAGE, 7r .. 7r + 6, r < 40: word " + (273 + j), last[j], x.word(273 + j));
        }
        due.is("IMAGE, 7r .. 7r + 6, r < 40: word 279 is the last CHECK", Edges.leaf(last) | 1, x.word(279));
        due.is("IMAGE, 7r .. 7r + 6, r < 40: word 272 is the CHECK before", Edges.leaf(new int[] {2, 3, 88, 0, 0, 27}) | 1,
            x.word(272));
    }

    private void placesOfTheKeys() {
        WriteOnceVault x = Edges.made(EdgeTermsTest::forty);
        for (int id = 1; id <= 12; id++) {
            due.is("IMAGE, 279 + id is the KEY, 1 <= id <= 12: " + id, 99 + id, x.word(279 + id));
        }
        x = new WriteOnceVault();
        x.put(0, 0, 55, 0);
        due.is("IMAGE, 279 + id is the KEY: not 279", 0, x.word(279));
        due.is("IMAGE, 279 + id is the KEY: not 281", 0, x.word(281));
    }

    /** A CHECK that is not right leaves no record sound, whether LEAF is even or odd. */
    private void checkOfAnEvenAndAnOddLeaf() {
        boolean even = false, odd = false;
        for (int date = 0; date < 20; date++) {
            int[] six = {1, 1, date, 0, 0, 0};
            int leaf = Edges.leaf(six);
            even |= (leaf & 1) == 0;
            odd |= (leaf & 1) == 1;
            String sentence = "CHECK is right when it is LEAF | 1, LEAF " + leaf;
            due.is(sentence + ": LEAF | 1", 1, soundWith(six, leaf | 1));
            due.is(sentence + ": LEAF", leaf & 1, soundWith(six, leaf));
            due.is(sentence + ": LEAF ^ 1", 1 - (leaf & 1), soundWith(six, leaf ^ 1));
            due.is(sentence + ": one bit less", 0, soundWith(six, leaf & ~1));
            due.is(sentence + ": one more", 0, soundWith(six, (leaf | 1) + 1));
            due.is(sentence + ": one less", 0, soundWith(six, (leaf | 1) - 1));
            due.is(sentence + ": 0", 0, soundWith(six, 0));
        }
        due.yes("both an even and an odd LEAF were tried", even && odd);
    }

    private static int soundWith(int[] six, int check) {
        WriteOnceVault x = new WriteOnceVault();
        x.power(false);
        Edges.forge(x, 0, six, check);
        return x.power(true);
    }

    private void leafIsOfSixWords() {
        int[] six = {1, 1, 9, 123, -456, 0};
        for (int j = 0; j < 6; j++) {
            int[] other = six.clone();
            other[j] ^= MIN;
            due.is("LEAF, each of its first six words: the top bit of word " + j, 0, soundWith(other, Edges.leaf(six) | 1));
        }
        WriteOnceVault x = new WriteOnceVault();
        x.put(11, 22, 777, 50);
        due.is("LEAF, h is 1 at first, then mix(h, w)", -1131015890, x.root(1));
    }

    private void trees() {
        for (int n = 0; n <= 40; n++) {
            WriteOnceVault x = Edges.made(EdgeTermsTest::forty);
            due.is("TREE, c = " + n, ROOTS[n], x.root(n));
            due.is("TREE, c = " + n + ", in an audit", 40, x.audit(n, ROOTS[n]));
        }
    }

    private void pathOfOne() {
        WriteOnceVault x = Edges.made(EdgeTermsTest::forty);
        due.is("PATH, with c = 1 the LEAF", ROOTS[1], x.path(0, 1, 0));
        due.is("PATH, with c = 1 the LEAF alone", NONE, x.path(0, 1, 1));
    }

    /** The greatest power of two less than c, looked up: c is one more than a power of two at each step. */
    private static int splitOf(int c) {
        return c > 32 ? 32 : c > 16 ? 16 : c > 8 ? 8 : c > 4 ? 4 : c > 2 ? 2 : 1;
    }

    private void pathsOnBothSidesOfK() {
        for (int c = 2; c <= 40; c++) {
            int k = splitOf(c);
            WriteOnceVault x = Edges.made(EdgeTermsTest::forty);
            Model model = modelOfForty();
            String sentence = "PATH, c = " + c + ", k = " + k + ": ";
            int left = lengthOfPath(x, k - 1, c), right = lengthOfPath(x, k, c);
            due.is(sentence + "i = k - 1 ends with the right tree", model.tree(k, c - k), x.path(k - 1, c, left - 1));
            due.is(sentence + "i = k ends with the left tree", model.tree(0, k), x.path(k, c, right - 1));
            due.is(sentence + "i = k - 1 begins with its LEAF", model.leaf(k - 1), x.path(k - 1, c, 0));
            due.is(sentence + "i = k begins with its LEAF", model.leaf(k), x.path(k, c, 0));
            due.is(sentence + "i = c - 1 begins with its LEAF", model.leaf(c - 1), x.path(c - 1, c, 0));
            due.is(sentence + "length with i = k - 1", lengthOfPath(x, k - 1, k) + 1, left);
            due.is(sentence + "length with i = k", lengthOfPath(x, 0, c - k) + 1, right);
            due.is(sentence + "i = c", NONE, x.path(c, c, 0));
        }
    }

    private static int lengthOfPath(WriteOnceVault x, int i, int n) {
        int length = 0;
        while (length < 20 && x.path(i, n, length) != NONE) {
            length++;
        }
        return length;
    }

    private static int lengthOfBridge(WriteOnceVault x, int m, int n) {
        int length = 0;
        while (length < 20 && x.bridge(m, n, length) != NONE) {
            length++;
        }
        return length;
    }

    private void bridgeOfAll() {
        for (int c = 1; c <= 40; c++) {
            WriteOnceVault x = Edges.made(EdgeTermsTest::forty);
            due.is("BRIDGE, with m = c = " + c + " no digest when plain", 0, lengthOfBridge(x, c, c));
        }
    }

    private void bridgesOnBothSidesOfK() {
        for (int c = 2; c <= 40; c++) {
            int k = splitOf(c);
            WriteOnceVault x = Edges.made(EdgeTermsTest::forty);
            Model model = modelOfForty();
            String sentence = "BRIDGE, c = " + c + ", k = " + k + ": ";
            due.is(sentence + "m = k has one digest", 1, lengthOfBridge(x, k, c));
            due.is(sentence + "m = k, the right tree", model.tree(k, c - k), x.bridge(k, c, 0));
            if (c > k + 1) {
                int length = lengthOfBridge(x, k + 1, c);
                due.is(sentence + "m = k + 1 begins with a LEAF", model.leaf(k), x.bridge(k + 1, c, 0));
                due.is(sentence + "m = k + 1 ends with the left tree", model.tree(0, k), x.bridge(k + 1, c, length - 1));
                int last = lengthOfBridge(x, c - 1, c);
                due.is(sentence + "m = c - 1 ends with the left tree", model.tree(0, k), x.bridge(c - 1, c, last - 1));
            }
            if (c > 2) {
                int first = lengthOfBridge(x, 1, c);
                due.is(sentence + "m = 1 begins with record 1", model.leaf(1), x.bridge(1, c, 0));
                due.is(sentence + "m = 1 ends with the right tree", model.tree(k, c - k), x.bridge(1, c, first - 1));
            }
        }
    }

    private static Model modelOfForty() {
        Model model = new Model();
        WriteOnceVault x = Edges.made(EdgeTermsTest::forty);
        for (int at = 0; at < 292; at++) {
            model.image[at] = (int) x.word(at);
        }
        return model;
    }

    private void everyRow() {
        Model model = modelOfForty();
        for (int n = 1; n <= 40; n++) {
            int paths = 0, bridges = 0, pathsOfModel = 0, bridgesOfModel = 0;
            for (int i = 0; i < n; i++) {
                WriteOnceVault x = Edges.made(EdgeTermsTest::forty);
                paths = foldPath(paths, x, i, n);
                bridges = foldBridge(bridges, x, i + 1, n);
                pathsOfModel = fold(pathsOfModel, model.pathRow(0, i, n));
                bridgesOfModel = fold(bridgesOfModel, model.bridgeRow(0, i + 1, n, false));
            }
            due.is("PATH, all of " + n, PATHS[n], paths);
            due.is("BRIDGE, all of " + n, BRIDGES[n], bridges);
            due.is("PATH, all of " + n + ", by the model", PATHS[n], pathsOfModel);
            due.is("BRIDGE, all of " + n + ", by the model", BRIDGES[n], bridgesOfModel);
        }
    }

    private static int foldPath(int sum, WriteOnceVault x, int i, int n) {
        int length = lengthOfPath(x, i, n);
        int folded = 31 * sum + length;
        for (int k = 0; k < length; k++) {
            folded = 31 * folded + (int) x.path(i, n, k);
        }
        return folded;
    }

    private static int foldBridge(int sum, WriteOnceVault x, int m, int n) {
        int length = lengthOfBridge(x, m, n);
        int folded = 31 * sum + length;
        for (int k = 0; k < length; k++) {
            folded = 31 * folded + (int) x.bridge(m, n, k);
        }
        return folded;
    }

    private static int fold(int sum, List<Integer> row) {
        int folded = 31 * sum + row.size();
        for (int digest : row) {
            folded = 31 * folded + digest;
        }
        return folded;
    }
}
