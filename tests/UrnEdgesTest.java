import java.math.BigInteger;
import java.util.Arrays;
import java.util.function.IntUnaryOperator;

/** Promises 7 to 17: each sentence that names an edge, with the last number taken and the first refused. */
public final class UrnEdgesTest {
    private static final int BAD = Edges.BAD, NO = Edges.NO, FULL = Edges.FULL, NONE = Edges.NONE;
    private static final int STUCK = Edges.STUCK, LOW = Edges.LOW, HIGH = Edges.HIGH;
    private static final int BAD_ADDED = Edges.BAD_ADDED, BAD_ABOUT = Edges.BAD_ABOUT;
    private static final long ROUND = 2147483647L;

    /** URNS 0 and 1 of two COLOURS. */
    private static GrowingUrns plain() {
        return Edges.like(1, 3, 2);
    }

    /** URN 0 has so many COLOURS, 7 BALLS of each, none ADDED. */
    private static GrowingUrns sevens(int colours) {
        int[] balls = new int[colours];
        Arrays.fill(balls, 7);
        return Edges.with(balls);
    }

    private static GrowingUrns eight() {
        GrowingUrns x = plain();
        for (int u = 2; u < 8; u++) {
            x.urn(2);
        }
        return x;
    }

    // ---- promise 7

    private static void urnColours() {
        for (int colours = 2; colours <= 4; colours++) {
            GrowingUrns x = plain();
            Edges.due(colours + " COLOURS", x.urn(colours), 2);
            Edges.due("its COLOURS", x.about(2, 0), colours);
            Edges.due("URNS", x.count(0), 3);
        }
        Edges.beside("number of COLOURS", UrnEdgesTest::plain, 2, 4, BAD, (x, colours) -> x.urn(colours));
        Edges.refused("0 COLOURS", UrnEdgesTest::plain, x -> x.urn(0), BAD);
    }

    private static void urnNumbers() {
        GrowingUrns x = new GrowingUrns();
        for (int u = 0; u < 8; u++) {
            Edges.due("about one that is to come", x.about(u, 0), BAD_ABOUT);
            Edges.due("URN " + u, x.urn(2 + u % 3), u);
            Edges.due("URNS", x.count(0), u + 1);
        }
        for (int u = 0; u < 8; u++) {
            Edges.due("COLOURS of " + u, x.about(u, 0), 2 + u % 3);
        }
    }

    private static void eightAtMost() {
        for (int colours = 2; colours <= 4; colours++) {
            int k = colours;
            Edges.refused("a ninth of " + k, UrnEdgesTest::eight, x -> x.urn(k), FULL);
        }
        Edges.beside("number of COLOURS of a ninth", UrnEdgesTest::eight, 2, 4, BAD, (x, k) -> x.urn(k));
    }

    private static void urnAtFirst() {
        for (int colours = 2; colours <= 4; colours++) {
            GrowingUrns x = plain();
            x.urn(colours);
            Edges.due("all BALLS", x.about(2, 1), 0);
            Edges.due("DRAWS", x.about(2, 2), 0);
            for (int c = 0; c < colours; c++) {
                Edges.due("BALLS of " + c, x.about(2, 6 + c), 0);
                Edges.due("what " + c + " IS", x.is(2, c, -1), NONE);
                for (int d = 0; d < colours; d++) {
                    Edges.due("ADDED " + c + ", " + d, x.added(2, c, d), 0);
                }
            }
        }
    }

    // ---- promise 8

    private static void putNumbers() {
        GrowingUrns x = plain();
        Edges.due("200", x.put(0, 0, 200), 3);
        Edges.due("they are", x.about(0, 6), 200);
        Edges.due("0", x.put(0, 0, 0), 200);
        Edges.due("they are", x.about(0, 6), 0);
        Edges.due("1", x.put(0, 0, 1), 0);
        Edges.due("the same", x.put(0, 0, 1), 1);
        Edges.due("the other COLOUR", x.about(0, 7), 2);
        Edges.due("the other URN", x.about(1, 1), 4);
        Edges.beside("BALLS", UrnEdgesTest::plain, 0, 200, BAD, (y, n) -> y.put(0, 1, n));
    }

    private static void putPlaces() {
        for (int colours = 2; colours <= 4; colours++) {
            int k = colours;
            GrowingUrns x = sevens(k);
            Edges.due("the first COLOUR", x.put(0, 0, 1), 7);
            Edges.due("the last COLOUR", x.put(0, k - 1, 2), 7);
            Edges.due("the first is", x.about(0, 6), 1);
            Edges.due("the last is", x.about(0, 5 + k), 2);
            Edges.beside("COLOUR of put", () -> sevens(k), 0, k - 1, BAD, (y, c) -> y.put(0, c, 1));
        }
        Edges.beside("URN of put", UrnEdgesTest::plain, 0, 1, BAD, (y, u) -> y.put(u, 0, 1));
    }

    // ---- promises 9 and 12

    private static void addNumbers() {
        GrowingUrns x = plain();
        Edges.due("9", x.add(0, 0, 1, 9), 0);
        Edges.due("it is", x.added(0, 0, 1), 9);
        Edges.due("-9", x.add(0, 0, 1, -9), 9);
        Edges.due("it is", x.added(0, 0, 1), -9);
        Edges.due("0", x.add(0, 0, 1, 0), -9);
        Edges.due("it is", x.added(0, 0, 1), 0);
        Edges.due("the other way", x.added(0, 1, 0), 0);
        Edges.due("its neighbour", x.added(0, 0, 0), 1);
        Edges.due("the other URN", x.added(1, 0, 1), 0);
        Edges.beside("ADDED", UrnEdgesTest::plain, -9, 9, BAD_ADDED, (y, v) -> y.add(0, 1, 0, v));
    }

    private static void addPlaces() {
        for (int colours = 2; colours <= 4; colours++) {
            int k = colours;
            GrowingUrns x = sevens(k);
            for (int place = 0; place < k * k; place++) {
                Edges.due("add " + place / k + ", " + place % k, x.add(0, place / k, place % k, place % 10 - 4), 0);
            }
            for (int place = 0; place < k * k; place++) {
                Edges.due("ADDED " + place / k + ", " + place % k, x.added(0, place / k, place % k), place % 10 - 4);
            }
            Edges.beside("COLOUR drawn of add", () -> sevens(k), 0, k - 1, BAD_ADDED, (y, c) -> y.add(0, c, 0, 1));
            Edges.beside("COLOUR coming of add", () -> sevens(k), 0, k - 1, BAD_ADDED, (y, d) -> y.add(0, 0, d, 1));
            Edges.beside("COLOUR drawn of added", () -> sevens(k), 0, k - 1, BAD_ADDED, (y, c) -> y.added(0, c, 0));
            Edges.beside("COLOUR coming of added", () -> sevens(k), 0, k - 1, BAD_ADDED, (y, d) -> y.added(0, 0, d));
        }
        Edges.beside("URN of add", UrnEdgesTest::plain, 0, 1, BAD_ADDED, (y, u) -> y.add(u, 0, 0, 1));
        Edges.beside("URN of added", UrnEdgesTest::plain, 0, 1, BAD_ADDED, (y, u) -> y.added(u, 0, 0));
    }

    // ---- promise 10

    private static void isLesser() {
        for (int urn = 0; urn < 8; urn++) {
            int u = urn;
            GrowingUrns x = eight();
            Edges.due("none", x.is(u, 1, -1), NONE);
            if (u > 0) {
                Edges.due("the least", x.is(u, 1, 0), NONE);
                Edges.due("the one below", x.is(u, 1, u - 1), 0);
                Edges.due("none again", x.is(u, 1, -1), u - 1);
                Edges.due("none was", x.is(u, 1, -1), NONE);
            }
            Edges.beside("URN that a COLOUR of " + u + " IS", UrnEdgesTest::eight, -1, u - 1, BAD,
                (y, other) -> y.is(u, 1, other));
        }
        Edges.refused("one that is not there", UrnEdgesTest::plain, x -> x.is(1, 0, 2), BAD);
    }

    private static void isRefusedStays() {
        GrowingUrns x = plain();
        Edges.due("itself", x.is(1, 0, 1), BAD);
        Edges.due("-2", x.is(1, 0, -2), BAD);
        Edges.due("it IS what it was", x.is(1, 0, 0), 0);
        Edges.due("the other COLOUR IS none", x.is(1, 1, 0), NONE);
    }

    private static void isPlaces() {
        for (int colours = 2; colours <= 4; colours++) {
            int k = colours;
            GrowingUrns x = plain();
            x.urn(k);
            Edges.due("the first COLOUR", x.is(2, 0, 1), NONE);
            Edges.due("the last COLOUR", x.is(2, k - 1, 0), NONE);
            Edges.due("the first was", x.is(2, 0, -1), 1);
            Edges.due("the last was", x.is(2, k - 1, -1), 0);
            Edges.beside("COLOUR of is", () -> sevens(k), 0, k - 1, BAD, (y, c) -> y.is(0, c, -1));
        }
        Edges.beside("URN of is", UrnEdgesTest::plain, 0, 1, BAD, (y, u) -> y.is(u, 0, -1));
    }

    // ---- promise 11

    private static void aboutNumbers() {
        for (int colours = 2; colours <= 4; colours++) {
            int k = colours;
            GrowingUrns x = sevens(k);
            x.put(0, 0, 1);
            x.put(0, k - 1, 200);
            Edges.due("COLOURS", x.about(0, 0), k);
            Edges.due("all BALLS", x.about(0, 1), 201 + 7 * (k - 2));
            Edges.due("BALLS of the first", x.about(0, 6), 1);
            Edges.due("BALLS of the last", x.about(0, 5 + k), 200);
            Edges.beside("what of about", () -> sevens(k), 0, 5 + k, BAD_ABOUT, (y, what) -> y.about(0, what));
        }
        Edges.beside("URN of about", UrnEdgesTest::plain, 0, 1, BAD_ABOUT, (y, u) -> y.about(u, 0));
        GrowingUrns most = Edges.with(Edges.some(200, 200, 200, 200));
        Edges.due("the most BALLS", most.about(0, 1), 800);
    }

    private static void aboutDraws() {
        GrowingUrns x = plain();
        Edges.due("of 0", x.about(0, 2), 0);
        Edges.due("of 1", x.about(1, 2), 1);
        x.draw(0, 0);
        x.draw(0, 1);
        Edges.due("of 0", x.about(0, 2), 2);
        x.put(0, 0, 0);
        x.draw(0, 0);
        Edges.due("STUCK is none", x.about(0, 2), 2);
        Edges.due("of 1", x.about(1, 2), 1);
        x.is(1, 0, -1);
        Edges.due("by SEED", x.shake(1, 50), 50);
        Edges.due("of 1", x.about(1, 2), 51);
    }

    private static int[][] rowsOf(int colours, int sum) {
        int[][] rows = new int[colours][colours];
        for (int c = 0; c < colours; c++) {
            int rest = sum;
            for (int d = 0; d < colours; d++) {
                int left = colours - d;
                rows[c][d] = rest / left;
                rest -= rows[c][d];
            }
        }
        return rows;
    }

    private static void evenIs(String what, int[][] rows, int even, int s) {
        GrowingUrns x = Edges.with(new int[rows.length], rows);
        Edges.due(what + ": EVEN", x.about(0, 3), even);
        Edges.due(what + ": s", x.about(0, 4), s);
    }

    private static void even() {
        for (int k = 2; k <= 4; k++) {
            for (int s : new int[] {-9 * k, -1, 0, 1, 9 * k}) {
                evenIs("sums " + s + " of " + k, rowsOf(k, s), 1, s);
                for (int c = 0; c < k; c++) {
                    int[][] more = rowsOf(k, s);
                    more[c][c] += s == 9 * k ? -1 : 1;
                    evenIs("sums " + s + " of " + k + " but of " + c, more, 0, 0);
                }
            }
            evenIs("the last below 0", lastBut(k, -1), 0, 0);
            evenIs("the last above 0", lastBut(k, 1), 0, 0);
        }
    }

    private static int[][] lastBut(int k, int v) {
        int[][] rows = new int[k][k];
        rows[k - 1][0] = v;
        return rows;
    }

    private static void likeIs(String what, int[][] rows, int like) {
        Edges.due(what + ": LIKE", Edges.with(new int[rows.length], rows).about(0, 5), like);
    }

    private static int[][] diagonal(int k, int s) {
        int[][] rows = new int[k][k];
        for (int c = 0; c < k; c++) {
            rows[c][c] = s;
        }
        return rows;
    }

    private static void like() {
        for (int k = 2; k <= 4; k++) {
            likeIs("s -9 of " + k, diagonal(k, -9), 0);
            likeIs("s -1 of " + k, diagonal(k, -1), 0);
            likeIs("s 0 of " + k, diagonal(k, 0), 1);
            likeIs("s 1 of " + k, diagonal(k, 1), 1);
            likeIs("s 9 of " + k, diagonal(k, 9), 1);
            for (int place = 0; place < k * k; place++) {
                for (int by = -1; by <= 1; by += 2) {
                    int[][] rows = diagonal(k, 3);
                    rows[place / k][place % k] += by;
                    likeIs("s 3 of " + k + " but at " + place, rows, 0);
                    int[][] zeros = diagonal(k, 0);
                    zeros[place / k][place % k] += by;
                    likeIs("s 0 of " + k + " but at " + place, zeros, 0);
                }
            }
        }
        likeIs("EVEN by another COLOUR", new int[][] {{0, 2}, {2, 0}}, 0);
        likeIs("EVEN, all sums 2", new int[][] {{2, 0}, {1, 1}}, 0);
    }

    // ---- promise 13

    /** URN 0 of 7 BALLS of each; c is drawn, and of d there are so many, so many ADDED. */
    private static GrowingUrns ready(int colours, int c, int d, int balls, int v) {
        GrowingUrns x = sevens(colours);
        x.put(0, d, balls);
        x.add(0, c, d, v);
        return x;
    }

    private static void drawGoes(String what, int colours, int c, int d, int balls, int v) {
        GrowingUrns x = ready(colours, c, d, balls, v);
        String told = what + ", " + colours + " COLOURS, " + c + " drawn, of " + d;
        Edges.due(told + " all BALLS", x.draw(0, c), 7 * (colours - 1) + balls + v);
        Edges.due(told + " BALLS", x.about(0, 6 + d), balls + v);
        Edges.due(told + " DRAWS", x.about(0, 2), 1);
    }

    /** What is asked of a COLOUR drawn and one coming, of an URN of so many COLOURS. */
    private interface Place {
        void ask(int colours, int c, int d);
    }

    private static void everywhere(Place place) {
        for (int colours = 2; colours <= 4; colours++) {
            for (int c = 0; c < colours; c++) {
                for (int d = 0; d < colours; d++) {
                    place.ask(colours, c, d);
                }
            }
        }
    }

    private static void drawLess(int k, int c, int d) {
        drawGoes("5 less 5", k, c, d, 5, -5);
        drawGoes("9 less 9", k, c, d, 9, -9);
        drawGoes("1 less 1", k, c, d, 1, -1);
        Edges.refused("5 less 6", () -> ready(k, c, d, 5, -6), x -> x.draw(0, c), STUCK);
        Edges.refused("8 less 9", () -> ready(k, c, d, 8, -9), x -> x.draw(0, c), STUCK);
        if (c != d) {
            Edges.refused("0 less 1", () -> ready(k, c, d, 0, -1), x -> x.draw(0, c), STUCK);
        }
    }

    private static void drawMore(int k, int c, int d) {
        drawGoes("195 and 5", k, c, d, 195, 5);
        drawGoes("199 and 1", k, c, d, 199, 1);
        drawGoes("200 and none", k, c, d, 200, 0);
        Edges.refused("196 and 5", () -> ready(k, c, d, 196, 5), x -> x.draw(0, c), STUCK);
        Edges.refused("200 and 1", () -> ready(k, c, d, 200, 1), x -> x.draw(0, c), STUCK);
    }

    private static void drawNone() {
        for (int colours = 2; colours <= 4; colours++) {
            for (int colour = 0; colour < colours; colour++) {
                int k = colours;
                int c = colour;
                Edges.refused("none of " + c, () -> ready(k, c, c, 0, 0), x -> x.draw(0, c), STUCK);
                Edges.refused("none of " + c + ", 9 ADDED", () -> ready(k, c, c, 0, 9), x -> x.draw(0, c), STUCK);
                Edges.refused("no BALLS", () -> Edges.with(new int[k]), x -> x.draw(0, c), STUCK);
                drawGoes("one of it", k, c, c, 1, 0);
            }
        }
    }

    private static void drawPutsBack() {
        GrowingUrns x = sevens(3);
        Edges.due("none ADDED", x.draw(0, 1), 21);
        Edges.due("the BALL is back", x.about(0, 7), 7);
        x.add(0, 1, 0, 2);
        x.add(0, 1, 1, -1);
        x.add(0, 1, 2, 3);
        x.add(0, 2, 0, 9);
        Edges.due("2, -1 and 3 ADDED", x.draw(0, 1), 25);
        Edges.due("BALLS of 0", x.about(0, 6), 9);
        Edges.due("BALLS of 1", x.about(0, 7), 6);
        Edges.due("BALLS of 2", x.about(0, 8), 10);
    }

    private static void drawAlone() {
        GrowingUrns x = plain();
        Edges.due("a COLOUR that IS URN 0", x.draw(1, 0), 5);
        Edges.due("BALLS of URN 0", x.about(0, 1), 5);
        Edges.due("DRAWS of URN 0", x.about(0, 2), 0);
        Edges.due("the SEED", x.count(3), 4711);
        x.put(0, 0, 0);
        x.put(0, 1, 0);
        Edges.due("URN 0 has no BALLS", x.draw(1, 0), 6);
    }

    private static void drawNumbers() {
        for (int colours = 2; colours <= 4; colours++) {
            int k = colours;
            Edges.beside("COLOUR of draw", () -> sevens(k), 0, k - 1, BAD, (x, c) -> x.draw(0, c));
            Edges.beside("COLOUR of draw, no BALLS", () -> Edges.with(new int[k]), 0, k - 1, BAD,
                (x, c) -> x.draw(0, c));
        }
        Edges.beside("URN of draw", UrnEdgesTest::plain, 0, 1, BAD, (x, u) -> x.draw(u, 0));
    }

    // ---- promise 14

    private static void seedNumbers() {
        Edges.range("SEED", UrnEdgesTest::plain, 1, 2147483646, BAD, (x, v) -> x.seed(v));
        for (int v : new int[] {1, 2, 2147483645, 2147483646}) {
            GrowingUrns x = plain();
            x.seed(v);
            Edges.due("the SEED", x.count(3), v);
        }
        Edges.noAct("seed", UrnEdgesTest::plain, x -> x.seed(7));
    }

    // ---- promise 15

    /** The SEED from which a DRAW comes to this one. */
    private static int seedAhead(long next) {
        BigInteger round = BigInteger.valueOf(ROUND);
        BigInteger back = BigInteger.valueOf(48271).modInverse(round);
        return BigInteger.valueOf(next - 11).multiply(back).mod(round).intValue();
    }

    private static void seedGoesOn() {
        for (long next : new long[] {0, 1, 10, 12, 15, 16, 2147483645, 2147483646}) {
            GrowingUrns x = sevens(2);
            Edges.due("a SEED ahead of " + next, x.seed(seedAhead(next)), 0);
            x.drawn(0);
            Edges.due("the SEED", x.count(3), next);
            x.drawn(0);
            Edges.due("the SEED behind " + next, x.count(3), (next * 48271 + 11) % ROUND);
        }
        GrowingUrns x = sevens(2);
        x.seed(1);
        x.drawn(0);
        Edges.due("48271 and 11", x.count(3), 48282);
        x.seed(2147483646);
        x.drawn(0);
        Edges.due("once less, round", x.count(3), 2147435387);
    }

    /** The COLOUR that is drawn of these BALLS when the SEED becomes next. */
    private static void drawnBy(int[] balls, long next, int colour) {
        GrowingUrns x = Edges.with(balls);
        x.seed(seedAhead(next));
        Edges.due("the SEED " + next, x.drawn(0), 10 + colour);
    }

    private static void seedDivided() {
        int[] ones = {1, 1, 1, 1};
        drawnBy(ones, 0, 0);
        drawnBy(ones, 15, 0);
        drawnBy(ones, 16, 1);
        drawnBy(ones, 31, 1);
        drawnBy(ones, 32, 2);
        drawnBy(ones, 47, 2);
        drawnBy(ones, 48, 3);
        drawnBy(ones, 63, 3);
        drawnBy(ones, 64, 0);
        drawnBy(ones, 2147483646, 134217727 % 4);
    }

    private static void seedPicks() {
        int[][] urns = {{3, 0, 2, 5}, {0, 2, 0, 1}, {0, 0, 0, 4}, {1, 200, 1}, {0, 1, 0}, {200, 1}, {0, 3}, {3, 0}};
        for (int[] balls : urns) {
            int number = 0;
            for (int c = 0; c < balls.length; c++) {
                int last = number + balls[c] - 1;
                if (balls[c] > 0) {
                    drawnBy(balls, 16L * number, c);
                    drawnBy(balls, 16L * last + 15, c);
                }
                number += balls[c];
            }
            int all = number;
            int first = 0;
            while (balls[first] == 0) {
                first++;
            }
            drawnBy(balls, 16L * all, first);
            drawnBy(balls, 16L * all * 100000 + 15, first);
        }
    }

    /** URNS 0 to 7; of each only one COLOUR has BALLS, and that IS the URN below. */
    private static GrowingUrns chain(int colours) {
        GrowingUrns x = new GrowingUrns();
        for (int u = 0; u < 8; u++) {
            int c = u * 3 % colours;
            x.urn(colours);
            x.put(u, c, 2);
            x.is(u, c, u - 1);
        }
        x.draw(1, 3 % colours);
        return x;
    }

    private static void drawnTells() {
        int told = 1;
        long seed = 1;
        for (int top = 0; top < 8; top++) {
            told = 1;
            seed = 1;
            for (int u = top; u >= 0; u--) {
                told = told * 10 + u * 3 % 4;
                seed = (seed * 48271 + 11) % ROUND;
            }
            GrowingUrns x = chain(4);
            Edges.due("down from " + top, x.drawn(top), told);
            Edges.due("the SEED", x.count(3), seed);
            Edges.due("DRAWS", x.count(2), top + 2);
            for (int u = 0; u < 8; u++) {
                Edges.due("DRAWS of " + u, x.about(u, 2), (u <= top ? 1 : 0) + (u == 1 ? 1 : 0));
            }
        }
        Edges.due("down through eight", told, 112301230);
    }

    private static void drawnOnlyWhatIs() {
        GrowingUrns x = plain();
        int alone = 0;
        int both = 0;
        for (int i = 0; i < 40; i++) {
            int draws = x.about(0, 2);
            int told = x.drawn(1);
            boolean down = told >= 100;
            Edges.due("DRAWS of URN 0 behind " + told, x.about(0, 2), draws + (down ? 1 : 0));
            Edges.due("told of " + told, down ? told / 10 : told, down ? 10 : 11);
            both += down ? 1 : 0;
            alone += down ? 0 : 1;
        }
        Edges.due("both have come", both > 0 && alone > 0 ? 1 : 0, 1);
    }

    private static void drawnNumbers() {
        Edges.beside("URN of drawn", UrnEdgesTest::plain, 0, 1, BAD, (x, u) -> x.drawn(u));
        Edges.refused("an URN that is to come", () -> new GrowingUrns(), x -> x.drawn(0), BAD);
    }

    private static GrowingUrns chainWithout(int u) {
        GrowingUrns x = chain(2);
        x.put(u, u % 2, 0);
        return x;
    }

    private static GrowingUrns chainBeyond(int u, int v) {
        GrowingUrns x = chain(2);
        x.put(u, u % 2, v > 0 ? 200 : 1);
        x.add(u, u % 2, u % 2, v);
        return x;
    }

    private static void drawnStuck() {
        for (int urn = 0; urn < 8; urn++) {
            int u = urn;
            Edges.refused("no BALLS in " + u, () -> chainWithout(u), x -> x.drawn(7), STUCK);
            Edges.refused("less than 0 in " + u, () -> chainBeyond(u, -2), x -> x.drawn(7), STUCK);
            Edges.refused("more than 200 in " + u, () -> chainBeyond(u, 1), x -> x.drawn(7), STUCK);
            Edges.refused("of " + u + " alone", () -> chainWithout(u), x -> x.drawn(u), STUCK);
            Edges.refused("shake, no BALLS in " + u, () -> chainWithout(u), x -> x.shake(7, 50), 0);
            Edges.due("down to 0 in " + u, chainBeyond(u, -1).drawn(u) > 0 ? 1 : 0, 1);
            if (u < 7) {
                Edges.due("STUCK is above", chainWithout(u + 1).drawn(u) > 0 ? 1 : 0, 1);
            }
        }
    }

    // ---- promise 16

    private static void shakeNumbers() {
        GrowingUrns x = plain();
        Edges.due("1", x.shake(1, 1), 1);
        Edges.due("DRAWS", x.about(1, 2), 2);
        GrowingUrns y = sevens(2);
        Edges.due("50", y.shake(0, 50), 50);
        Edges.due("DRAWS", y.about(0, 2), 50);
        Edges.beside("DRAWS of shake", UrnEdgesTest::plain, 1, 50, BAD, (z, n) -> z.shake(1, n));
        Edges.beside("DRAWS of shake, no BALLS", () -> Edges.with(new int[2]), 1, 50, BAD, (z, n) -> z.shake(0, n));
        Edges.beside("URN of shake", UrnEdgesTest::plain, 0, 1, BAD, (z, u) -> z.shake(u, 1));
    }

    private static void shakeAsDrawn() {
        for (int n : new int[] {1, 2, 17, 50}) {
            GrowingUrns x = plain();
            GrowingUrns y = plain();
            Edges.due("shake " + n, x.shake(1, n), n);
            for (int i = 0; i < n; i++) {
                y.drawn(1);
            }
            for (int u = 0; u < 2; u++) {
                for (int what = 1; what < 8; what++) {
                    Edges.due("about " + u + ", " + what, x.about(u, what), y.about(u, what));
                }
            }
            Edges.due("the SEED", x.count(3), y.count(3));
        }
    }

    private static void shakeUntilStuck() {
        for (int done = 0; done <= 4; done++) {
            GrowingUrns x = Edges.like(-1, done, 0);
            GrowingUrns y = Edges.like(-1, done, 0);
            for (int i = 0; i < done; i++) {
                y.drawn(0);
            }
            int acts = x.count(1);
            Edges.due("there are " + done, x.shake(0, 50), done);
            Edges.due("DRAWS", x.about(0, 2), done);
            Edges.due("the SEED of those that were done", x.count(3), y.count(3));
            Edges.due("one act, or none", x.count(1), acts + (done > 0 ? 1 : 0));
        }
        GrowingUrns exact = Edges.like(-1, 4, 0);
        Edges.due("3 of 4", exact.shake(0, 3), 3);
        Edges.due("1 is left", exact.about(0, 1), 1);
    }

    private static void shakeStuckBelow() {
        GrowingUrns x = Edges.like(-1, 2, 1);
        x.put(1, 1, 0);
        GrowingUrns y = Edges.like(-1, 2, 1);
        y.put(1, 1, 0);
        for (int i = 0; i < 3; i++) {
            y.drawn(1);
        }
        Edges.due("3 below", x.shake(1, 50), 3);
        Edges.due("none above for the 4th", x.about(1, 2), 4);
        Edges.due("BALLS above", x.about(1, 1), 4);
        Edges.due("the SEED behind the 3rd", x.count(3), y.count(3));
        Edges.due("all in one act", x.undo(), 1);
        Edges.due("BALLS below", x.about(0, 1), 3);
        Edges.due("the SEED", x.count(3), 4711);
        Edges.refused("none done", () -> Edges.with(new int[2]), z -> z.shake(0, 50), 0);
    }

    // ---- promise 17

    private static void acts() {
        Edges.act("put", UrnEdgesTest::plain, x -> x.put(0, 0, 9));
        Edges.act("put of as many", UrnEdgesTest::plain, x -> x.put(0, 0, 3));
        Edges.act("read of BALLS", UrnEdgesTest::plain, x -> x.read(0, 0, 0, 1, 1));
        Edges.act("read of ADDED", UrnEdgesTest::plain, x -> x.read(0, 1, 1, 0, 0));
        Edges.act("add", UrnEdgesTest::plain, x -> x.add(0, 0, 1, 9));
        Edges.act("add of as many", UrnEdgesTest::plain, x -> x.add(0, 0, 0, 1));
        Edges.act("is", UrnEdgesTest::plain, x -> x.is(1, 1, 0));
        Edges.act("is none", UrnEdgesTest::plain, x -> x.is(1, 0, -1));
        Edges.act("draw", UrnEdgesTest::plain, x -> x.draw(0, 0));
        Edges.act("drawn", UrnEdgesTest::plain, x -> x.drawn(1));
        Edges.act("shake", UrnEdgesTest::plain, x -> x.shake(1, 50));
        for (int k = 2; k <= 4; k++) {
            int last = k - 1;
            int colours = k;
            Edges.act("put of the last", () -> sevens(colours), x -> x.put(0, last, 9));
            Edges.act("add of the last", () -> sevens(colours), x -> x.add(0, last, last, 9));
        }
    }

    /** URNS 2 and 3 of four COLOURS, each with BALLS, ADDED, what its COLOURS are and DRAWS of its own. */
    private static GrowingUrns filled() {
        GrowingUrns x = plain();
        for (int u = 2; u < 4; u++) {
            x.urn(4);
            for (int c = 0; c < 4; c++) {
                x.put(u, c, 100 + 10 * u + c);
                x.is(u, c, (u + c) % u);
                for (int d = 0; d < 4; d++) {
                    x.add(u, c, d, (4 * c + d + u) % 9 + 1);
                }
            }
            for (int i = 0; i < 5 * u; i++) {
                x.draw(u, i % 4);
                x.put(u, i % 4, 100 + i);
            }
        }
        return x;
    }

    private static void allIsTakenBack() {
        Edges.Call[] acts = {x -> x.put(1, 0, 9), x -> x.put(2, 3, 9), x -> x.add(2, 3, 3, 0), x -> x.add(3, 2, 0, 0),
            x -> x.is(2, 3, -1), x -> x.is(3, 3, -1), x -> x.draw(2, 0), x -> x.draw(3, 3), x -> x.shake(3, 9),
            x -> x.read(2, 0, 0, 5, 0)};
        for (Edges.Call act : acts) {
            GrowingUrns x = filled();
            long[] ahead = Edges.look(x);
            act.on(x);
            x.put(0, 0, 1);
            x.undo();
            x.undo();
            // Of the acts 20 are kept, so that those ahead are one fewer now.
            long[] behind = Edges.look(x);
            ahead[1] = behind[1];
            Edges.same("about, added, holds, count, part", behind, ahead);
            for (int u = 2; u < 4; u++) {
                for (int c = 0; c < 4; c++) {
                    Edges.due("what " + c + " of " + u + " IS", x.is(u, c, -1), (u + c) % u);
                }
            }
        }
    }

    private static void actsOfEveryUrn() {
        for (int u = 0; u < 8; u++) {
            int urn = u;
            Edges.act("put in " + u, UrnEdgesTest::eight, x -> x.put(urn, 1, 9));
            Edges.act("add in " + u, UrnEdgesTest::eight, x -> x.add(urn, 1, 1, 9));
            Edges.act("is in " + u, UrnEdgesTest::eight, x -> x.is(urn, 1, urn - 1));
        }
        for (int u = 0; u < 8; u++) {
            GrowingUrns x = eight();
            x.is(u, 1, u - 1);
            x.undo();
            Edges.due("what a COLOUR of " + u + " IS", x.is(u, 1, -1), NONE);
        }
        GrowingUrns x = chain(4);
        long seed = x.count(3);
        x.drawn(7);
        Edges.due("all eight levels", x.undo(), 1);
        Edges.due("the SEED", x.count(3), seed);
        Edges.due("DRAWS", x.count(2), 1);
    }

    private static void noActs() {
        Edges.noAct("sheet", UrnEdgesTest::plain, x -> x.sheet(0, 1, 3));
        Edges.noAct("lay", UrnEdgesTest::plain, x -> x.lay(0, 1, 3));
        Edges.noAct("copy", UrnEdgesTest::plain, x -> x.copy(2, 0, 5, 0, 1));
        Edges.noAct("urn", UrnEdgesTest::plain, x -> x.urn(3));
        Edges.noAct("chance", UrnEdgesTest::plain, x -> x.chance(0, 3, 0));
        Edges.noAct("times", UrnEdgesTest::plain, x -> x.times(0, 3, 0, 1));
        Edges.noAct("told", UrnEdgesTest::plain, x -> x.told(0, 1, 0, 2, 0));
        Edges.noAct("free", UrnEdgesTest::plain, x -> x.free(0, 5));
    }

    private static void notTakenBack() {
        GrowingUrns x = plain();
        x.put(0, 0, 9);
        x.sheet(0, 1, 1);
        x.lay(0, 0, 77);
        x.urn(4);
        x.chance(0, 0, 0);
        Edges.due("undo", x.undo(), 1);
        Edges.due("the SHEET stays", x.holds(0, 0, 77), 1);
        Edges.due("the URN stays", x.count(0), 3);
        Edges.due("its COLOURS stay", x.about(2, 0), 4);
        Edges.fractionIs("THE FRACTION stays", x, 1, 0, 1);
        GrowingUrns y = plain();
        y.urn(2);
        y.put(2, 1, 5);
        y.is(2, 0, 1);
        y.undo();
        y.undo();
        Edges.due("BALLS of a new URN", y.about(2, 7), 0);
        Edges.due("what its COLOUR IS", y.is(2, 0, -1), NONE);
    }

    private static void undoWithSeed() {
        GrowingUrns x = sevens(2);
        x.seed(100);
        x.drawn(0);
        x.drawn(0);
        Edges.due("the SEED behind two", x.count(3), (4827111L * 48271 + 11) % ROUND);
        x.undo();
        Edges.due("the SEED behind one", x.count(3), 4827111);
        x.undo();
        Edges.due("the SEED ahead of both", x.count(3), 100);
        x.put(0, 0, 1);
        x.seed(55);
        x.undo();
        Edges.due("the SEED ahead of the act", x.count(3), 100);
    }

    /** The acts put 1, 2, .. on COLOUR 0, by which it shows how far they were taken back. */
    private static GrowingUrns withActs(int acts) {
        GrowingUrns x = new GrowingUrns();
        x.urn(2);
        for (int n = 1; n <= acts; n++) {
            x.put(0, 0, n);
        }
        return x;
    }

    private static void takeAllBack(String what, GrowingUrns x, int kept, IntUnaryOperator ballsBehind) {
        Edges.due("acts kept, " + what, x.count(1), kept);
        for (int i = 1; i <= kept; i++) {
            Edges.due("undo " + i + ", " + what, x.undo(), 1);
            Edges.due("BALLS behind undo " + i + ", " + what, x.about(0, 6), ballsBehind.applyAsInt(i));
            Edges.due("acts behind undo " + i + ", " + what, x.count(1), kept - i);
        }
        Edges.due("none is left, " + what, x.undo(), NO);
        Edges.due("none was taken, " + what, x.about(0, 6), ballsBehind.applyAsInt(kept));
    }

    private static void twentyAreKept() {
        for (int acts : new int[] {0, 1, 2, 19, 20, 21, 39, 40, 41, 60}) {
            takeAllBack("of " + acts, withActs(acts), Math.min(acts, 20), i -> acts - i);
        }
    }

    private static void keptAgain() {
        GrowingUrns x = withActs(25);
        for (int i = 0; i < 10; i++) {
            x.undo();
        }
        Edges.due("10 are left", x.count(1), 10);
        for (int n = 16; n <= 24; n++) {
            x.put(0, 0, n + 50);
        }
        takeAllBack("10 and 9 more", x, 19, i -> i < 9 ? 74 - i : 24 - i);
        GrowingUrns y = withActs(25);
        for (int i = 0; i < 10; i++) {
            y.undo();
        }
        for (int n = 16; n <= 30; n++) {
            y.put(0, 0, n + 50);
        }
        takeAllBack("10 and 15 more", y, 20, i -> i < 15 ? 80 - i : 30 - i);
    }

    /** As many things to be seen as there are without an act. */
    private static GrowingUrns noActsYet() {
        GrowingUrns x = new GrowingUrns();
        x.urn(2);
        x.urn(3);
        x.seed(9);
        x.sheet(0, 0, 2);
        x.lay(0, 1, Edges.laid(0, 1));
        x.chance(0, 0, 0);
        return x;
    }

    private static void undoNone() {
        Edges.refused("no act yet", UrnEdgesTest::noActsYet, x -> x.undo(), NO);
        GrowingUrns x = new GrowingUrns();
        Edges.due("a new object", x.undo(), NO);
        x.urn(2);
        x.put(0, 0, 201);
        x.draw(0, 0);
        x.drawn(0);
        x.shake(0, 5);
        x.read(0, 0, 0, 1, 0);
        x.add(0, 0, 0, 10);
        x.is(0, 0, 0);
        Edges.due("refused ones", x.count(1), 0);
        Edges.due("refused ones", x.undo(), NO);
        Edges.due("acts", x.count(1), 0);
        x.put(0, 0, 5);
        x.undo();
        Edges.due("once taken back", x.undo(), NO);
        Edges.due("BALLS", x.about(0, 1), 0);
    }

    public static void main(String[] args) {
        Edges.sentence("7: URNS have 2 to 4 COLOURS", UrnEdgesTest::urnColours);
        Edges.sentence("7: URNS 0, 1, .. as they come", UrnEdgesTest::urnNumbers);
        Edges.sentence("7: 8 at most: FULL; BAD first", UrnEdgesTest::eightAtMost);
        Edges.sentence("Terms: (0 at first), or none", UrnEdgesTest::urnAtFirst);
        Edges.sentence("8: 0 to 200; how many there were", UrnEdgesTest::putNumbers);
        Edges.sentence("8: of a COLOUR; BAD", UrnEdgesTest::putPlaces);
        Edges.sentence("9: -9 to 9; what it was; BAD answers -100", UrnEdgesTest::addNumbers);
        Edges.sentence("9 and 12: ADDED c, d; BAD answers -100", UrnEdgesTest::addPlaces);
        Edges.sentence("10: another one, of a lesser number (-1: none); (NONE)", UrnEdgesTest::isLesser);
        Edges.sentence("10: nothing changes then", UrnEdgesTest::isRefusedStays);
        Edges.sentence("10: COLOUR c of an URN; BAD", UrnEdgesTest::isPlaces);
        Edges.sentence("11: 0 COLOURS, 1 all BALLS, 6 + c BALLS of COLOUR c; BAD answers -1000",
            UrnEdgesTest::aboutNumbers);
        Edges.sentence("11: 2 DRAWS that were done of it", UrnEdgesTest::aboutDraws);
        Edges.sentence("Terms: EVEN, if ADDED of each COLOUR come to the same sum s", UrnEdgesTest::even);
        Edges.sentence("Terms: LIKE, if ADDED c, d are 0 but of c and d alike, and these s, s at least 0",
            UrnEdgesTest::like);
        Edges.sentence("13: or by ADDED of c some COLOUR would have less than 0",
            () -> everywhere(UrnEdgesTest::drawLess));
        Edges.sentence("13: or more than 200", () -> everywhere(UrnEdgesTest::drawMore));
        Edges.sentence("13: if there is none of c; An URN without BALLS is STUCK", UrnEdgesTest::drawNone);
        Edges.sentence("13: Else the BALL is put back, and of each COLOUR comes what is ADDED",
            UrnEdgesTest::drawPutsBack);
        Edges.sentence("13: of this URN alone", UrnEdgesTest::drawAlone);
        Edges.sentence("13: of several the first: BAD; STUCK", UrnEdgesTest::drawNumbers);
        Edges.sentence("14: (1 to 2147483646)", UrnEdgesTest::seedNumbers);
        Edges.sentence("Terms: the SEED becomes (SEED times 48271 and 11) modulo 2147483647", UrnEdgesTest::seedGoesOn);
        Edges.sentence("Terms: divided by 16 and cut, modulo all BALLS", UrnEdgesTest::seedDivided);
        Edges.sentence("Terms: of which this is less than BALLS of 0 to c together, the least one",
            UrnEdgesTest::seedPicks);
        Edges.sentence("15: behind a 1 (1 c d ..)", UrnEdgesTest::drawnTells);
        Edges.sentence("Terms: If the COLOUR IS an URN, a DRAW by SEED of that follows", UrnEdgesTest::drawnOnlyWhatIs);
        Edges.sentence("15: BAD", UrnEdgesTest::drawnNumbers);
        Edges.sentence("15: STUCK: the URN, or one below, is (nothing changes then, the SEED neither)",
            UrnEdgesTest::drawnStuck);
        Edges.sentence("16: (1 to 50); of several the first: BAD", UrnEdgesTest::shakeNumbers);
        Edges.sentence("16: n DRAWS by SEED", UrnEdgesTest::shakeAsDrawn);
        Edges.sentence("16: until one is STUCK: how many were done. (One act; none, if none was done.)",
            UrnEdgesTest::shakeUntilStuck);
        Edges.sentence("16: until one is STUCK, below", UrnEdgesTest::shakeStuckBelow);
        Edges.sentence("Terms: Acts are put(), read(), add(), is(), draw(), drawn(), shake()", UrnEdgesTest::acts);
        Edges.sentence("17: The latest act is taken back, with all of it", UrnEdgesTest::allIsTakenBack);
        Edges.sentence("17: The latest act is taken back, of whatever URN", UrnEdgesTest::actsOfEveryUrn);
        Edges.sentence("Terms: and no others are acts", UrnEdgesTest::noActs);
        Edges.sentence("17: only the act is taken back", UrnEdgesTest::notTakenBack);
        Edges.sentence("17: with the SEED", UrnEdgesTest::undoWithSeed);
        Edges.sentence("Terms: 20 are kept, and taken back", UrnEdgesTest::twentyAreKept);
        Edges.sentence("Terms: 20 are kept, also behind some that were taken back", UrnEdgesTest::keptAgain);
        Edges.sentence("17: NO: there is none; that are not refused (STUCK ones refused, too)", UrnEdgesTest::undoNone);
        Edges.end();
    }
}
