/**
 * The edges of promises 15 and 16, with the fed words 1, 2, ..: their roots, written out here, were
 * worked out apart from class and model, with integers that do not wrap, modulo 2^32.
 */
public final class EdgeProofsTest {
    private static final int MAX = Integer.MAX_VALUE, MIN = Integer.MIN_VALUE;

    /** i, n, how many words PATH(i, n) has, RISE(i, n): the first, the last, and both sides of k. */
    private static final int[][] RISES = {
        {0, 1, 1, 1},
        {0, 2, 2, -1440003231}, {1, 2, 2, -938955361},
        {0, 3, 3, -159077317}, {1, 3, 3, 397616454}, {2, 3, 2, -938955361},
        {0, 4, 3, -159077317}, {1, 4, 3, 397616454}, {2, 4, 3, 1870448678}, {3, 4, 3, 1570079166},
        {0, 5, 4, -1525082569}, {3, 5, 4, -904961283}, {4, 5, 2, -938955361},
        {0, 8, 4, -1525082569}, {3, 8, 4, -904961283}, {4, 8, 4, 1792647843}, {7, 8, 4, 1493889690},
        {0, 9, 5, 674688519}, {7, 9, 5, -890366372}, {8, 9, 2, -938955361},
        {0, 16, 5, 674688519}, {7, 16, 5, -890366372}, {8, 16, 5, -528893810}, {15, 16, 5, -405884217},
        {0, 17, 6, 776780771}, {15, 17, 6, 1074905808}, {16, 17, 2, -938955361},
        {0, 32, 6, 776780771}, {15, 32, 6, 1074905808}, {16, 32, 6, 214901633}, {31, 32, 6, -448253492},
        {0, 33, 7, 615257170}, {31, 33, 7, 414255100}, {32, 33, 2, -938955361},
        {0, 39, 7, 615257170}, {31, 39, 7, 414255100}, {32, 39, 5, -528893810}, {38, 39, 4, 1493889690},
        {0, 40, 7, 615257170}, {31, 40, 7, 414255100}, {32, 40, 5, -528893810}, {39, 40, 5, -405884217}};

    /** m, n, how many words the plain BRIDGE(m, n) has, SPAN(m, n), early being 77 where it is free. */
    private static final int[][] SPANS = {
        {1, 1, 0, 77, 77},
        {1, 2, 1, 77, 1259775799}, {2, 2, 0, 77, 77},
        {1, 3, 2, 77, -724397473}, {2, 3, 1, 77, 1259775799}, {3, 3, 0, 77, 77},
        {1, 4, 2, 77, -724397473}, {2, 4, 1, 77, 1259775799}, {3, 4, 3, -2019703481, 1870448678}, {4, 4, 0, 77, 77},
        {1, 5, 3, 77, 2122888026}, {4, 5, 1, 77, 1259775799}, {5, 5, 0, 77, 77},
        {1, 8, 3, 77, 2122888026}, {4, 8, 1, 77, 1259775799}, {5, 8, 4, 2146222803, 1792647843},
        {7, 8, 4, 1324720279, -1366146928}, {8, 8, 0, 77, 77},
        {1, 9, 4, 77, 1893366128}, {8, 9, 1, 77, 1259775799}, {9, 9, 0, 77, 77},
        {1, 16, 4, 77, 1893366128}, {8, 16, 1, 77, 1259775799}, {9, 16, 5, -1269532330, -528893810},
        {15, 16, 5, 340947386, 1705035283}, {16, 16, 0, 77, 77},
        {1, 17, 5, 77, 489399577}, {16, 17, 1, 77, 1259775799}, {17, 17, 0, 77, 77},
        {1, 32, 5, 77, 489399577}, {16, 32, 1, 77, 1259775799}, {17, 32, 6, 230977281, 214901633},
        {31, 32, 6, -1269296226, -1882398288}, {32, 32, 0, 77, 77},
        {1, 33, 6, 77, 1189974596}, {32, 33, 1, 77, 1259775799}, {33, 33, 0, 77, 77},
        {1, 39, 6, 77, 1189974596}, {32, 39, 1, 77, 1259775799}, {33, 39, 5, -1269532330, -528893810},
        {38, 39, 4, 1324720279, -1366146928}, {39, 39, 0, 77, 77},
        {1, 40, 6, 77, 1189974596}, {32, 40, 1, 77, 1259775799}, {33, 40, 5, -1269532330, -528893810},
        {39, 40, 5, 340947386, 1705035283}, {40, 40, 0, 77, 77}};

    private final Due due;
    private final Edges edges;

    private EdgeProofsTest(Due due) {
        this.due = due;
        this.edges = new Edges(due);
    }

    public static void main(String[] args) {
        Due due = new Due("EdgeProofsTest");
        EdgeProofsTest test = new EdgeProofsTest(due);
        test.rises();
        test.includedBounds();
        test.spans();
        test.extendedBounds();
        test.wordsAreGoneAfterwards();
        test.plainNeedsNoFirstWord();
        test.fullHasAWordOfItsOwn();
        due.end();
    }

    private static WriteOnceVault fed(boolean off, int words) {
        WriteOnceVault x = new WriteOnceVault();
        x.put(1, 2, 3, 4);
        if (off) {
            x.power(false);
        }
        Edges.feed(x, words);
        return x;
    }

    private void rises() {
        for (int[] r : RISES) {
            for (boolean off : new boolean[] {false, true}) {
                String call = "15: " + r[0] + " of " + r[1] + ", off " + off;
                due.yes(call, fed(off, r[2]).included(r[0], r[1], r[3]));
                for (int words = 0; words <= 12; words++) {
                    String many = call + ", as many as PATH has: " + words;
                    due.is(many, words == r[2], fed(off, words).included(r[0], r[1], r[3]));
                    due.is(many, words == r[2], fed(off, words).included(r[0], r[1], riseOf(words, r)));
                }
                due.no(call + ", another root", fed(off, r[2]).included(r[0], r[1], r[3] ^ MIN));
                due.no(call + ", another root", fed(off, r[2]).included(r[0], r[1], r[3] + 1));
                due.no(call + ", root 0", fed(off, r[2]).included(r[0], r[1], 0));
            }
        }
    }

    /** The root that too many words would make if the first ones were left out. */
    private static int riseOf(int words, int[] r) {
        return words > r[2] ? Model.rise(Edges.upTo(words).subList(words - r[2], words), r[0], r[1]) : r[3];
    }

    private void includedBounds() {
        for (int n : new int[] {MIN, -1, 0, 41, 42, 64, MAX}) {
            for (int i : new int[] {MIN, -1, 0, 1, 40, 41, MAX}) {
                for (int words = 0; words <= 8; words++) {
                    String call = "15: 0 <= i < n <= 40: " + i + " of " + n + ", words " + words;
                    due.no(call, fed(false, words).included(i, n, 1));
                    due.no(call, fed(false, words).included(i, n, 0));
                    due.no(call, fed(false, words).included(i, n, 615257170));
                }
            }
        }
        for (int n = 1; n <= 40; n++) {
            for (int i : new int[] {MIN, -1, n, n + 1, 40, MAX}) {
                for (int words = 0; words <= 8 && (i < 0 || i >= n); words++) {
                    due.no("15: 0 <= i < n: " + i + " of " + n, fed(false, words).included(i, n, 1));
                }
            }
        }
        for (int i : new int[] {0, 31, 32, 40}) {
            int size = Model.pathSize(i, 41);
            int root = Model.rise(Edges.upTo(size), i, 41);
            due.no("15: n <= 40: " + i + " of 41", fed(false, size).included(i, 41, root));
        }
        due.no("15: i < n: 1 of 1", fed(false, 1).included(1, 1, 1));
        due.no("15: no words, root 0", fed(false, 0).included(0, 1, 0));
    }

    private void spans() {
        for (int[] s : SPANS) {
            for (boolean off : new boolean[] {false, true}) {
                String call = "16: " + s[0] + " of " + s[1] + ", off " + off;
                due.yes(call, fed(off, s[2]).extended(s[0], s[1], s[3], s[4]));
                for (int words = 0; words <= 12; words++) {
                    due.is(call + ", as many as BRIDGE has: " + words, words == s[2],
                        fed(off, words).extended(s[0], s[1], s[3], s[4]));
                }
                due.no(call + ", another late root", fed(off, s[2]).extended(s[0], s[1], s[3], s[4] + 1));
                due.no(call + ", another late root", fed(off, s[2]).extended(s[0], s[1], s[3], s[4] ^ MIN));
                due.no(call + ", another early root", fed(off, s[2]).extended(s[0], s[1], s[3] + 1, s[4]));
                due.no(call + ", another early root", fed(off, s[2]).extended(s[0], s[1], s[3] ^ MIN, s[4]));
                due.is(call + ", the roots the other way round", s[3] == s[4], fed(off, s[2]).extended(s[0], s[1], s[4], s[3]));
            }
        }
    }

    private void extendedBounds() {
        for (int n : new int[] {MIN, -1, 0, 41, 42, 64, MAX}) {
            for (int m : new int[] {MIN, -1, 0, 1, 2, 40, 41, 42, 64, MAX}) {
                for (int words = 0; words <= 8; words++) {
                    String call = "16: 1 <= m <= n <= 40: " + m + " of " + n + ", words " + words;
                    due.no(call, fed(false, words).extended(m, n, 77, 77));
                    due.no(call, fed(false, words).extended(m, n, 0, 0));
                    due.no(call, fed(false, words).extended(m, n, 77, 1189974596));
                }
            }
        }
        for (int n = 1; n <= 40; n++) {
            for (int m : new int[] {MIN, -1, 0, n + 1, 41, MAX}) {
                for (int words = 0; words <= 8; words++) {
                    due.no("16: 1 <= m <= n: " + m + " of " + n, fed(false, words).extended(m, n, 77, 77));
                }
            }
        }
        for (int m : new int[] {1, 32, 33, 40, 41}) {
            int size = Model.bridgeSize(m, 41, false);
            int[] pair = Model.span(Edges.upTo(size), m, 41, false, 77);
            due.no("16: n <= 40: " + m + " of 41", fed(false, size).extended(m, 41, pair[0], pair[1]));
        }
        due.no("16: m <= n: 2 of 1", fed(false, 0).extended(2, 1, 77, 77));
        due.yes("16: forty of forty", fed(false, 0).extended(40, 40, 77, 77));
        due.no("16: forty-one of forty-one", fed(false, 0).extended(41, 41, 77, 77));
        due.no("16: none of none", fed(false, 0).extended(0, 0, 77, 77));
    }

    private static void someFed(WriteOnceVault x, int words, boolean off) {
        x.put(1, 2, 3, 4);
        x.hold(1, 2, true);
        x.tick(2);
        x.cut(30);
        if (off) {
            x.power(false);
        }
        Edges.feed(x, words);
    }

    /** Nothing else changes, whether the answer is yes, or no for any of its reasons. */
    private void wordsAreGoneAfterwards() {
        int[][] proofs = {{0, 1, 1}, {0, 1, 2}, {0, 2, -1440003231}, {0, 2, 0}, {-1, 1, 1}, {1, 1, 1}, {0, 41, 1}, {0, 0, 1}, {MIN, MAX, 0}};
        int[][] growths = {{1, 1, 7, 7}, {1, 1, 7, 8}, {1, 2, 77, 1259775799}, {1, 2, 77, 0}, {0, 1, 7, 7}, {2, 1, 7, 7}, {41, 41, 7, 7},
            {1, 41, 7, 7}, {MIN, MAX, 0, 0}};
        for (boolean off : new boolean[] {false, true}) {
            for (int words : new int[] {0, 1, 2, 7, 12}) {
                Edges.Calls before = x -> someFed(x, words, off);
                Edges.Calls without = x -> someFed(x, 0, off);
                for (int[] p : proofs) {
                    edges.same("15: afterwards no words are fed: " + p[0] + " of " + p[1], without,
                        Edges.then(before, x -> x.included(p[0], p[1], p[2])));
                }
                for (int[] g : growths) {
                    edges.same("16: afterwards no words are fed: " + g[0] + " of " + g[1], without,
                        Edges.then(before, x -> x.extended(g[0], g[1], g[2], g[3])));
                }
            }
        }
    }

    private void plainNeedsNoFirstWord() {
        for (int early : new int[] {0, 77, -1, MAX, MIN}) {
            due.yes("16: with m = c plain (early, early)", fed(false, 0).extended(5, 5, early, early));
            due.no("16: with m = c plain, late is another", fed(false, 0).extended(5, 5, early, early + 1));
            due.yes("16: m = k, early goes up", fed(false, 1).extended(4, 8, early, Model.node(early, 1)));
            due.no("16: m = k, not the other way round", fed(false, 1).extended(4, 8, early, Model.node(1, early)));
        }
    }

    private void fullHasAWordOfItsOwn() {
        int one = Model.node(2, 1);
        due.yes("16: with m = c full (w, w)", fed(false, 3).extended(3, 4, Model.node(3, 1), Model.node(3, Model.node(1, 2))));
        due.no("16: full, early is not taken as it is", fed(false, 2).extended(3, 4, 77, Model.node(3, Model.node(77, 2))));
        due.no("16: full, early must be what the words make", fed(false, 3).extended(3, 4, one, Model.node(3, Model.node(1, 2))));
        due.yes("16: full, to the right twice", fed(false, 4).extended(7, 8, Model.node(4, Model.node(3, 1)),
            Model.node(4, Model.node(3, Model.node(1, 2)))));
    }
}
