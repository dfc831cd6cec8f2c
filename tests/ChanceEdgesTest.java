import java.util.Arrays;

/** Promises 18 to 27: each sentence that names an edge, with the last number taken and the first refused. */
public final class ChanceEdgesTest {
    private static final int BAD = Edges.BAD, NO = Edges.NO, BIG = Edges.BIG, LOW = Edges.LOW, HIGH = Edges.HIGH;

    /** LIKE by 1, of 1 and 2 BALLS. */
    private static GrowingUrns plain() {
        return Edges.like(1, 1, 2);
    }

    private static GrowingUrns empty() {
        return Edges.like(9, 0, 0);
    }

    private static GrowingUrns notEven() {
        return Edges.with(some(1, 2), some(1, 0));
    }

    private static GrowingUrns great() {
        return Edges.like(0, 200, 200, 200, 200);
    }

    private static int[] some(int... numbers) {
        return numbers;
    }

    private static int row(int... colours) {
        int row = 0;
        for (int i = colours.length - 1; i >= 0; i--) {
            row = row * 4 + colours[i];
        }
        return row;
    }

    /** A call that asks for AFTER n DRAWS. */
    private interface After {
        int on(GrowingUrns x, int n);
    }

    private static final String[] AFTER_NAMES = {"times", "left", "stuck", "mean"};
    private static final After[] AFTERS = {(x, n) -> x.times(0, n, 0, 0), (x, n) -> x.left(0, n, 0, 0),
        (x, n) -> x.stuck(0, n), (x, n) -> x.mean(0, n, 0, 1)};

    // ---- FRACTIONS

    private static void lowestTerms() {
        GrowingUrns x = Edges.like(0, 2, 2);
        Edges.fraction("2 of 4", x, y -> y.chance(0, 1, 0), 0, 1, 2);
        Edges.fraction("16 of 64", x, y -> y.chance(0, 2, 0), 0, 1, 4);
        Edges.fraction("1 2/6", Edges.like(1, 2, 4), y -> y.mean(0, 1, 0, 1), 2, 1, 3);
        Edges.fraction("1 1/3", plain(), y -> y.mean(0, 1, 0, 1), 1, 1, 3);
    }

    private static void nothingIsLeft() {
        Edges.fraction("3", Edges.like(0, 3, 2), y -> y.mean(0, 0, 0, 1), 3, 0, 1);
        Edges.fraction("12/4", Edges.like(0, 3, 1), y -> y.mean(0, 1, 0, 1), 3, 0, 1);
        Edges.fraction("1", Edges.like(0, 3, 0), y -> y.chance(0, 1, 0), 1, 0, 1);
        Edges.fraction("0", Edges.like(0, 3, 0), y -> y.chance(0, 1, 1), 0, 0, 1);
        Edges.fraction("0 of a mean", Edges.like(0, 3, 0), y -> y.mean(0, 1, 1, 3), 0, 0, 1);
        Edges.fraction("8000000", Edges.like(0, 200, 1), y -> y.mean(0, 0, 0, 3), 8000000, 0, 1);
    }

    // ---- promise 18

    private static void product() {
        Edges.fraction("1/3 2/4 3/5", plain(), y -> y.chance(0, 3, row(0, 1, 1)), 0, 1, 10);
        GrowingUrns x = Edges.with(some(1, 2), some(0, 1), some(2, -1));
        Edges.fraction("2/3 3/4 2/5", x, y -> y.chance(0, 3, row(1, 0, 1)), 0, 1, 5);
        Edges.fraction("1/3 3/4 2/5", Edges.with(some(1, 2), some(0, 1), some(1, -1)),
            y -> y.chance(0, 3, row(0, 1, 0)), 0, 1, 8);
        Edges.due("nothing is drawn", x.about(0, 1), 3);
    }

    private static void zeroIfStuck() {
        Edges.fraction("none of it", Edges.like(0, 0, 3), y -> y.chance(0, 1, row(0)), 0, 0, 1);
        Edges.fraction("all of it", Edges.like(0, 0, 3), y -> y.chance(0, 1, row(1)), 1, 0, 1);
        Edges.fraction("2 less 2", Edges.like(-2, 2, 3), y -> y.chance(0, 1, row(0)), 0, 2, 5);
        Edges.fraction("then none", Edges.like(-2, 2, 3), y -> y.chance(0, 2, row(0, 0)), 0, 0, 1);
        Edges.fraction("1 less 2", Edges.like(-2, 1, 3), y -> y.chance(0, 1, row(0)), 0, 0, 1);
        Edges.fraction("1 less 2, the last", Edges.like(-2, 1, 3), y -> y.chance(0, 2, row(1, 0)), 0, 0, 1);
        Edges.fraction("1 less 2, the first", Edges.like(-2, 1, 3), y -> y.chance(0, 2, row(0, 1)), 0, 0, 1);
        Edges.fraction("199 and 1", Edges.like(1, 199, 1), y -> y.chance(0, 1, row(0)), 0, 199, 200);
        Edges.fraction("200 and 1", Edges.like(1, 199, 1), y -> y.chance(0, 2, row(0, 0)), 0, 0, 1);
        Edges.fraction("200 and 1, the first", Edges.like(1, 200, 1), y -> y.chance(0, 2, row(0, 1)), 0, 0, 1);
        Edges.fraction("of another COLOUR", Edges.with(some(3, 200), some(0, 1)), y -> y.chance(0, 1, 0), 0, 0, 1);
        Edges.fraction("less of another", Edges.with(some(3, 0), some(0, -1)), y -> y.chance(0, 1, 0), 0, 0, 1);
        Edges.fraction("the last BALL", Edges.like(-1, 1, 1), y -> y.chance(0, 2, row(0, 1)), 0, 1, 2);
        Edges.fraction("no BALLS any more", Edges.like(-1, 1, 1), y -> y.chance(0, 3, row(0, 1, 0)), 0, 0, 1);
    }

    private static GrowingUrns nearRowLimit() {
        return Edges.with(some(1, 117, 117, 117), some(0, 2, 2, 3));
    }

    private static GrowingUrns beyondRowLimit() {
        return Edges.with(some(1, 109, 109, 110), some(0, 5, 5, 5));
    }

    private static void bigRow() {
        Edges.fraction("100 to the 9", Edges.like(0, 1, 20, 79), y -> y.chance(0, 9, 0), 0, 1, 1000000000000000000L);
        Edges.refused("101 to the 9", () -> Edges.like(0, 1, 100), y -> y.chance(0, 9, 0), BIG);
        Edges.fraction("101 to the 8", Edges.like(0, 1, 100), y -> y.chance(0, 8, 0), 0, 1, 10828567056280801L);
        Edges.fraction("31 to the 12", Edges.like(0, 1, 30), y -> y.chance(0, 12, 0), 0, 1, 787662783788549761L);
        Edges.refused("32 to the 12", () -> Edges.like(0, 1, 31), y -> y.chance(0, 12, 0), BIG);
        Edges.fraction("352 359 ..", nearRowLimit(), y -> y.chance(0, 7, 0), 0, 1, 999580586265423360L);
        Edges.refused("329 344 ..", ChanceEdgesTest::beyondRowLimit, y -> y.chance(0, 7, 0), BIG);
        Edges.refused("199 by 200, both to the 8", () -> Edges.like(0, 199, 1), y -> y.chance(0, 8, 0), BIG);
        Edges.refused("100 to the 9 and 10", () -> Edges.like(0, 1, 9, 90),
            y -> y.chance(0, 10, row(0, 0, 0, 0, 0, 0, 0, 0, 0, 2)), BIG);
    }

    /** 189 of 200 BALLS are of COLOUR 1; behind a DRAW of 0 it is 180 of 189. */
    private static GrowingUrns shrinking() {
        return Edges.with(some(11, 189), some(-2, -9));
    }

    private static void bigInLowestTerms() {
        Edges.fraction("100 by 200, both to the 12", Edges.like(0, 100, 100), y -> y.chance(0, 12, 0), 0, 1, 4096);
        Edges.fraction("2 by 32, both to the 12", Edges.like(0, 2, 30), y -> y.chance(0, 12, 0), 0, 1,
            281474976710656L);
        Edges.fraction("189 to the 6, 11, 180 to the 5 by 200 to the 7, 189 to the 5", shrinking(),
            y -> y.chance(0, 12, row(1, 1, 1, 1, 1, 1, 0, 1, 1, 1, 1, 1)), 0, 122762871L, 4000000000L);
    }

    private static void bigBehindEach() {
        Edges.fraction("189 by 200, both to the 7", shrinking(), y -> y.chance(0, 7, row(1, 1, 1, 1, 1, 1, 1)), 0,
            8614550657858229L, 12800000000000000L);
        Edges.refused("and 11 by 200", ChanceEdgesTest::shrinking,
            y -> y.chance(0, 8, row(1, 1, 1, 1, 1, 1, 1, 0)), BIG);
        Edges.refused("and 180 by 189, with which it would be below the limit again", ChanceEdgesTest::shrinking,
            y -> y.chance(0, 9, row(1, 1, 1, 1, 1, 1, 1, 0, 1)), BIG);
        Edges.refused("BIG, then STUCK", () -> Edges.like(0, 1, 100, 0),
            y -> y.chance(0, 10, row(0, 0, 0, 0, 0, 0, 0, 0, 0, 2)), BIG);
        Edges.fraction("STUCK, where it would be BIG", Edges.with(some(1, 199), some(0, 0), some(0, 2)),
            y -> y.chance(0, 8, row(0, 0, 0, 0, 0, 0, 0, 1)), 0, 0, 1);
        Edges.fraction("STUCK, then it would be BIG", Edges.like(0, 1, 100, 0),
            y -> y.chance(0, 12, row(0, 0, 0, 0, 0, 0, 0, 2, 0, 0, 0, 0)), 0, 0, 1);
    }

    private static void chanceNumbers() {
        Edges.range("DRAWS of chance", ChanceEdgesTest::plain, 0, 12, BAD, (x, n) -> x.chance(0, n, 0));
        Edges.beside("URN of chance", ChanceEdgesTest::plain, 0, 1, BAD, (x, u) -> x.chance(u, 1, 0));
        Edges.fraction("no DRAW", plain(), y -> y.chance(0, 0, 0), 1, 0, 1);
        Edges.fraction("1 DRAW", plain(), y -> y.chance(0, 1, 0), 0, 1, 3);
        Edges.fraction("12 DRAWS", plain(), y -> y.chance(0, 12, 0), 0, 1, 91);
        for (int n : new int[] {0, 1, 12}) {
            Edges.refused("row -1, n " + n, ChanceEdgesTest::plain, x -> x.chance(0, n, -1), BAD);
            Edges.refused("row LOW, n " + n, ChanceEdgesTest::plain, x -> x.chance(0, n, LOW), BAD);
        }
        Edges.fraction("the greatest row", Edges.like(0, 1, 1, 1, 1), y -> y.chance(0, 12, HIGH), 0, 1, 16777216);
    }

    /** The COLOUR 1 at each place of twelve tells its own chance: 0 comes once more with each DRAW of it. */
    private static void rowPlaces() {
        for (int place = 0; place < 12; place++) {
            int at = 1 << 2 * place;
            Edges.fraction("1 at " + place, Edges.with(some(1, 1), some(1, 0)), y -> y.chance(0, 12, at), 0, 1,
                12 * (place + 2));
        }
        Edges.fraction("0 alone", Edges.with(some(1, 1), some(1, 0)), y -> y.chance(0, 12, 0), 0, 1, 13);
        GrowingUrns x = Edges.like(0, 1, 2, 3, 4);
        for (int c = 0; c < 4; c++) {
            int colour = c;
            int common = c == 1 ? 2 : c == 3 ? 2 : 1;
            Edges.fraction("the first is " + c, x, y -> y.chance(0, 1, colour), 0, (c + 1) / common, 10 / common);
        }
        Edges.fraction("0 1 2 3", x, y -> y.chance(0, 4, 0 + 4 * 1 + 16 * 2 + 64 * 3), 0, 3, 1250);
    }

    private static void rowNotLookedAt() {
        for (int n = 0; n <= 12; n++) {
            int draws = n;
            int behind = 3 << 2 * n;
            Edges.due("3 behind " + n, plain().chance(0, draws, behind), 0);
            Edges.fraction("all behind " + n, Edges.like(0, 1, 0), y -> y.chance(0, draws, HIGH << 2 * draws & HIGH),
                1, 0, 1);
        }
    }

    private static void rowOfNone() {
        for (int place = 0; place < 12; place++) {
            for (int n = place + 1; n <= 12; n += 11 - place > 0 ? 11 - place : 1) {
                int draws = n;
                int two = 2 << 2 * place;
                int three = 3 << 2 * place;
                Edges.refused("2 at " + place + " of 2 COLOURS", () -> Edges.like(0, 1, 1),
                    x -> x.chance(0, draws, two), BAD);
                Edges.refused("3 at " + place + " of 2 COLOURS", () -> Edges.like(0, 1, 1),
                    x -> x.chance(0, draws, three), BAD);
                Edges.refused("3 at " + place + " of 3 COLOURS", () -> Edges.like(0, 1, 1, 1),
                    x -> x.chance(0, draws, three), BAD);
                Edges.due("2 at " + place + " of 3", Edges.like(0, 1, 1, 1).chance(0, draws, two), 0);
                Edges.due("3 at " + place + " of 4", Edges.like(0, 1, 1, 1, 1).chance(0, draws, three), 0);
            }
        }
    }

    private static void chanceNo() {
        Edges.fraction("no BALLS, no DRAW", empty(), y -> y.chance(0, 0, 0), 1, 0, 1);
        Edges.refused("no BALLS, 1 DRAW", ChanceEdgesTest::empty, x -> x.chance(0, 1, 0), NO);
        Edges.refused("no BALLS, 12 DRAWS", ChanceEdgesTest::empty, x -> x.chance(0, 12, 0), NO);
        Edges.due("one BALL", Edges.like(0, 0, 1).chance(0, 1, 0), 0);
        Edges.due("not EVEN", notEven().chance(0, 2, 0), 0);
    }

    private static void chanceFirst() {
        Edges.refused("no BALLS, n 13", ChanceEdgesTest::empty, x -> x.chance(0, 13, 0), BAD);
        Edges.refused("no BALLS, n -1", ChanceEdgesTest::empty, x -> x.chance(0, -1, 0), BAD);
        Edges.refused("no BALLS, row -1", ChanceEdgesTest::empty, x -> x.chance(0, 1, -1), BAD);
        Edges.refused("no BALLS, COLOUR 2", ChanceEdgesTest::empty, x -> x.chance(0, 1, 2), BAD);
        Edges.refused("no BALLS, COLOUR 2 the last", ChanceEdgesTest::empty, x -> x.chance(0, 12, 2 << 22), BAD);
        Edges.refused("BIG, COLOUR 2 behind it", () -> Edges.like(0, 1, 100), x -> x.chance(0, 12, 2 << 22), BAD);
        Edges.refused("STUCK, COLOUR 2 behind it", () -> Edges.like(0, 0, 1), x -> x.chance(0, 2, row(0, 2)), BAD);
        Edges.refused("BIG, n 13", () -> Edges.like(0, 1, 100), x -> x.chance(0, 13, 0), BAD);
    }

    // ---- AFTER n DRAWS

    private static void afterNumbers() {
        for (int i = 0; i < AFTERS.length; i++) {
            After call = AFTERS[i];
            String name = AFTER_NAMES[i];
            Edges.range("DRAWS of " + name, ChanceEdgesTest::plain, 0, 12, BAD, (x, n) -> call.on(x, n));
            Edges.beside("DRAWS of " + name + ", no BALLS", ChanceEdgesTest::empty, 0, 12, BAD,
                (x, n) -> call.on(x, n));
            Edges.beside("DRAWS of " + name + ", not EVEN", ChanceEdgesTest::notEven, 0, 12, BAD,
                (x, n) -> call.on(x, n));
            Edges.beside("DRAWS of " + name + ", BIG", ChanceEdgesTest::great, 0, 12, BAD, (x, n) -> call.on(x, n));
        }
        Edges.beside("URN of times", ChanceEdgesTest::plain, 0, 1, BAD, (x, u) -> x.times(u, 1, 0, 0));
        Edges.beside("URN of left", ChanceEdgesTest::plain, 0, 1, BAD, (x, u) -> x.left(u, 1, 0, 0));
        Edges.beside("URN of stuck", ChanceEdgesTest::plain, 0, 1, BAD, (x, u) -> x.stuck(u, 1));
        Edges.beside("URN of mean", ChanceEdgesTest::plain, 0, 1, BAD, (x, u) -> x.mean(u, 1, 0, 1));
    }

    private static GrowingUrns oneLess(int k, int c) {
        int[][] rows = new int[k][k];
        int[] balls = new int[k];
        for (int d = 0; d < k; d++) {
            rows[d][0] = d == c ? 1 : 2;
            balls[d] = 3;
        }
        return Edges.with(balls, rows);
    }

    private static void afterNo() {
        for (int i = 0; i < AFTERS.length; i++) {
            After call = AFTERS[i];
            String name = AFTER_NAMES[i];
            for (int n : new int[] {0, 1, 12}) {
                Edges.refused(name + ", no BALLS, " + n, ChanceEdgesTest::empty, x -> call.on(x, n), NO);
                Edges.refused(name + ", no BALLS, s 0, " + n, () -> Edges.like(0, 0, 0), x -> call.on(x, n), NO);
                Edges.refused(name + ", not EVEN, " + n, ChanceEdgesTest::notEven, x -> call.on(x, n), NO);
                Edges.refused(name + ", not EVEN, would be BIG, " + n,
                    () -> Edges.with(some(200, 200, 200, 200), some(-1)), x -> call.on(x, n), NO);
                Edges.due(name + ", one BALL, " + n, call.on(Edges.like(0, 0, 1), n), 0);
            }
            for (int k = 2; k <= 4; k++) {
                for (int c = 0; c < k; c++) {
                    int colours = k;
                    int less = c;
                    Edges.refused(name + ", one less by " + c, () -> oneLess(colours, less), x -> call.on(x, 1), NO);
                }
            }
        }
    }

    private static void afterBig(String what, Edges.Maker maker, int n) {
        for (int i = 0; i < AFTERS.length; i++) {
            After call = AFTERS[i];
            Edges.due(AFTER_NAMES[i] + ", " + what + ", one DRAW less", call.on(maker.make(), n - 1), 0);
            Edges.refused(AFTER_NAMES[i] + ", " + what, maker, x -> call.on(x, n), BIG);
            Edges.refused(AFTER_NAMES[i] + ", " + what + ", 12 DRAWS", maker, x -> call.on(x, 12), BIG);
        }
    }

    private static void afterNotBig(String what, Edges.Maker maker, int n) {
        for (int i = 0; i < AFTERS.length; i++) {
            Edges.due(AFTER_NAMES[i] + ", " + what, AFTERS[i].on(maker.make(), n), 0);
        }
    }

    private static GrowingUrns even(int[] balls, int... row) {
        int[][] rows = new int[balls.length][];
        for (int c = 0; c < balls.length; c++) {
            rows[c] = row;
        }
        return Edges.with(balls, rows);
    }

    private static GrowingUrns justBig() {
        return even(some(98, 98, 98, 98), 9, 9, 9, 3);
    }

    private static GrowingUrns atLimit() {
        return Edges.like(0, 20, 80);
    }

    private static void bigD() {
        afterNotBig("D 10000000000000000", ChanceEdgesTest::atLimit, 8);
        afterBig("100 to the 9", ChanceEdgesTest::atLimit, 9);
        afterBig("D 10001225937977344", ChanceEdgesTest::justBig, 6);
        afterBig("D 10003862179097920", () -> even(some(102, 102, 101, 101), 6, 6, 6, 6), 6);
        afterNotBig("D 9994939590504960", () -> even(some(110, 109, 109, 109), 3, 3, 3, 2), 6);
        afterNotBig("D 9994939590504960, s below 0", () -> even(some(123, 123, 123, 123), -3, -3, -3, -2), 6);
        afterBig("D 10001225937977344, s below 0", () -> even(some(136, 136, 135, 135), -9, -9, -9, -3), 6);
        afterBig("LIKE, D 10011204744420880", () -> Edges.like(9, 111, 111, 110, 110), 6);
        afterNotBig("LIKE, D 9993927307714560", () -> Edges.like(1, 28, 28), 9);
        afterBig("LIKE, a tenth DRAW", () -> Edges.like(1, 28, 28), 10);
        afterBig("the greatest URN", ChanceEdgesTest::great, 6);
    }

    private static void bigDAboveZero() {
        afterNotBig("27 to 16", () -> Edges.like(-1, 14, 13), 12);
        afterBig("28 to 17", () -> Edges.like(-1, 14, 14), 12);
        afterBig("57 52 .. 2", () -> even(some(29, 28), -3, -2), 12);
        for (int n = 9; n <= 12; n++) {
            afterNotBig("172 151 .. 4, none more", () -> even(some(43, 43, 43, 43), -6, -5, -5, -5), n);
        }
        afterNotBig("10 to 1, none more", () -> Edges.like(-1, 5, 5), 12);
    }

    private static void valuesAtTheLimit() {
        GrowingUrns x = atLimit();
        Edges.fraction("8 times a fifth", x, y -> y.times(0, 8, 0, 8), 0, 1, 390625);
        Edges.fraction("never a fifth", x, y -> y.times(0, 8, 0, 0), 0, 65536, 390625);
        Edges.fraction("all that is left", x, y -> y.left(0, 8, 0, 20), 1, 0, 1);
        Edges.fraction("none STUCK", x, y -> y.stuck(0, 8), 0, 0, 1);
        Edges.fraction("80 to the 3", x, y -> y.mean(0, 8, 1, 3), 512000, 0, 1);
        Edges.fraction("a fifth, told the last", x, y -> y.told(0, 1, 0, 8, 1), 0, 1, 5);
        Edges.fraction("28 65 by 56", Edges.like(1, 28, 28), y -> y.mean(0, 9, 0, 1), 32, 1, 2);
        Edges.fraction("115 471 by 459", Edges.like(2, 115, 115, 115, 114), y -> y.mean(0, 6, 0, 1), 118, 1, 153);
    }

    private static void dAboveZero() {
        GrowingUrns x = Edges.like(-2, 3, 2);
        Edges.fraction("one DRAW", x, y -> y.stuck(0, 1), 0, 0, 1);
        Edges.fraction("0 0: 3/5 1/3", x, y -> y.stuck(0, 2), 0, 1, 5);
        Edges.fraction("0 1 and 1 0", x, y -> y.times(0, 2, 0, 1), 0, 4, 5);
        Edges.fraction("0 0 is STUCK", x, y -> y.times(0, 2, 0, 2), 0, 0, 1);
        Edges.fraction("1 left of 0", x, y -> y.left(0, 2, 0, 1), 0, 4, 5);
        Edges.fraction("none left of 1", x, y -> y.left(0, 2, 1, 0), 0, 4, 5);
        Edges.fraction("the mean of 0", x, y -> y.mean(0, 2, 0, 1), 0, 4, 5);
        for (int n : new int[] {3, 4, 5, 12}) {
            Edges.fraction(n + " DRAWS of 5 BALLS", x, y -> y.stuck(0, n), 1, 0, 1);
            Edges.fraction(n + " DRAWS, times", x, y -> y.times(0, n, 0, 1), 0, 0, 1);
            Edges.fraction(n + " DRAWS, left", x, y -> y.left(0, n, 0, 1), 0, 0, 1);
            Edges.fraction(n + " DRAWS, mean", x, y -> y.mean(0, n, 0, 1), 0, 0, 1);
        }
        Edges.fraction("all STUCK by the first", Edges.like(-9, 8, 1), y -> y.stuck(0, 1), 1, 0, 1);
        Edges.fraction("all STUCK by the first, twelve", Edges.like(-9, 8, 1), y -> y.stuck(0, 12), 1, 0, 1);
    }

    private static void noBallsAnyMore() {
        GrowingUrns x = Edges.like(-2, 2, 2);
        Edges.fraction("two DRAWS", x, y -> y.stuck(0, 2), 0, 0, 1);
        Edges.fraction("each once", x, y -> y.times(0, 2, 0, 1), 1, 0, 1);
        Edges.fraction("none left", x, y -> y.left(0, 2, 0, 0), 1, 0, 1);
        for (int n : new int[] {3, 4, 12}) {
            Edges.fraction(n + " DRAWS", x, y -> y.stuck(0, n), 1, 0, 1);
            for (int times = 0; times <= n; times++) {
                int k = times;
                Edges.fraction(n + " DRAWS, " + k + " times", x, y -> y.times(0, n, 0, k), 0, 0, 1);
            }
            Edges.fraction(n + " DRAWS, left", x, y -> y.left(0, n, 0, 0), 0, 0, 1);
            Edges.fraction(n + " DRAWS, mean", x, y -> y.mean(0, n, 0, 1), 0, 0, 1);
        }
        GrowingUrns last = Edges.like(-1, 2, 1);
        Edges.fraction("the third is the last BALL", last, y -> y.stuck(0, 3), 0, 0, 1);
        Edges.fraction("a fourth", last, y -> y.stuck(0, 4), 1, 0, 1);
        GrowingUrns both = Edges.with(some(2, 2), some(-1, -1), some(-1, -1));
        Edges.fraction("whichever is drawn, two DRAWS", both, y -> y.stuck(0, 2), 0, 0, 1);
        Edges.fraction("whichever is drawn, a third", both, y -> y.stuck(0, 3), 1, 0, 1);
    }

    /** There are BALLS as long as one COLOUR has some. */
    private static void ballsOfAllColours() {
        int[][] urns = {{1, 0}, {0, 1}, {1, 0, 0}, {0, 1, 0}, {0, 0, 1}, {1, 1, 1}, {1, 1, 2}, {2, 1, 1}, {1, 0, 0, 0},
            {0, 0, 1, 0}, {0, 0, 0, 1}, {1, 1, 0, 2}, {1, 0, 1, 2}, {2, 1, 1, 0}, {1, 1, 1, 1}, {1, 1, 2, 0}};
        for (int[] balls : urns) {
            String what = Arrays.toString(balls);
            int all = Arrays.stream(balls).sum();
            Edges.fraction("none ADDED " + what, Edges.like(0, balls), y -> y.stuck(0, 3), 0, 0, 1);
            for (int n = 0; n <= all + 2; n++) {
                int draws = n;
                Edges.fraction(n + " DRAWS of " + what, Edges.like(-1, balls), y -> y.stuck(0, draws),
                    n > all ? 1 : 0, 0, 1);
            }
        }
    }

    /** 200 of COLOUR 0 are the most: rows with a second DRAW of 0 are STUCK by it. */
    private static void stuckRows() {
        GrowingUrns x = Edges.like(1, 199, 1);
        Edges.fraction("1 DRAW", x, y -> y.stuck(0, 1), 0, 0, 1);
        Edges.fraction("199/200 200/201", x, y -> y.stuck(0, 2), 0, 199, 201);
        Edges.fraction("all but 1 1 1, 0 1 1, 1 0 1, 1 1 0: 1200 by 200 201 202", x, y -> y.stuck(0, 3), 0, 6766,
            6767);
        Edges.fraction("200 of 0", x, y -> y.left(0, 1, 0, 200), 0, 199, 200);
        Edges.fraction("199/200 1/201 twice", x, y -> y.left(0, 2, 0, 200), 0, 199, 20100);
        Edges.fraction("1/200 2/201", x, y -> y.left(0, 2, 0, 199), 0, 1, 20100);
        Edges.fraction("0 once", x, y -> y.times(0, 2, 0, 1), 0, 199, 20100);
        Edges.fraction("0 twice", x, y -> y.times(0, 2, 0, 2), 0, 0, 1);
        Edges.fraction("never 0", x, y -> y.times(0, 2, 0, 0), 0, 1, 20100);
        Edges.fraction("never 1", x, y -> y.times(0, 2, 1, 0), 0, 0, 1);
        Edges.fraction("200 and 199", x, y -> y.mean(0, 2, 0, 1), 1, 99, 100);
        GrowingUrns full = Edges.like(1, 200, 50);
        Edges.fraction("STUCK by the first", full, y -> y.stuck(0, 1), 0, 4, 5);
        Edges.fraction("200 counted once in 5", full, y -> y.mean(0, 1, 0, 1), 40, 0, 1);
        Edges.fraction("51 counted once in 5", full, y -> y.mean(0, 1, 1, 1), 10, 1, 5);
        Edges.fraction("its square", full, y -> y.mean(0, 1, 1, 2), 520, 1, 5);
        Edges.fraction("its third power", full, y -> y.mean(0, 1, 1, 3), 26530, 1, 5);
    }

    // ---- promises 19, 20 and 22

    private static void timesNumbers() {
        Edges.range("k of times", ChanceEdgesTest::plain, 0, 12, BAD, (x, k) -> x.times(0, 3, 0, k));
        for (Edges.Maker maker : refusing()) {
            Edges.beside("k of times, else refused", maker, 0, 12, BAD, (x, k) -> x.times(0, 6, 0, k));
            Edges.refused("COLOUR 4 of times, else refused", maker, x -> x.times(0, 6, 4, 0), BAD);
            Edges.refused("COLOUR -1 of times, else refused", maker, x -> x.times(0, 6, -1, 0), BAD);
            Edges.refused("URN 2 of times, else refused", maker, x -> x.times(2, 6, 0, 0), BAD);
        }
        for (int colours = 2; colours <= 4; colours++) {
            int k = colours;
            Edges.range("COLOUR of times", () -> ones(k), 0, k - 1, BAD, (x, c) -> x.times(0, 1, c, 1));
        }
    }

    /** URN 0 has no BALLS, is not EVEN, is BIG. */
    private static Edges.Maker[] refusing() {
        return new Edges.Maker[] {ChanceEdgesTest::empty, ChanceEdgesTest::notEven, ChanceEdgesTest::great};
    }

    private static GrowingUrns ones(int colours) {
        int[] balls = new int[colours];
        Arrays.fill(balls, 1);
        return Edges.with(balls);
    }

    private static void timesTells() {
        GrowingUrns x = Edges.like(0, 1, 2, 3, 4);
        long[][] once = {{1, 10}, {1, 5}, {3, 10}, {2, 5}};
        long[][] onceOfTwo = {{9, 50}, {8, 25}, {21, 50}, {12, 25}};
        for (int c = 0; c < 4; c++) {
            int colour = c;
            Edges.fraction(c + " once", x, y -> y.times(0, 1, colour, 1), 0, once[c][0], once[c][1]);
            Edges.fraction(c + " once of two", x, y -> y.times(0, 2, colour, 1), 0, onceOfTwo[c][0], onceOfTwo[c][1]);
            Edges.fraction(c + " twice of one", x, y -> y.times(0, 1, colour, 2), 0, 0, 1);
        }
        GrowingUrns one = Edges.like(1, 1, 0);
        for (int n = 0; n <= 12; n++) {
            int draws = n;
            Edges.fraction("always", one, y -> y.times(0, draws, 0, draws), 1, 0, 1);
            Edges.fraction("never", one, y -> y.times(0, draws, 1, 0), 1, 0, 1);
            Edges.fraction("once more", one, y -> y.times(0, draws, 0, draws < 12 ? draws + 1 : 0), 0, 0, 1);
        }
        for (int k = 0; k <= 12; k++) {
            int often = k;
            Edges.fraction("alike for each k", Edges.like(1, 1, 1), y -> y.times(0, 12, 0, often), 0, 1, 13);
        }
    }

    private static void leftNumbers() {
        Edges.range("k of left", ChanceEdgesTest::plain, 0, 400, BAD, (x, k) -> x.left(0, 3, 0, k));
        for (Edges.Maker maker : refusing()) {
            Edges.beside("k of left, else refused", maker, 0, 400, BAD, (x, k) -> x.left(0, 6, 0, k));
            Edges.refused("COLOUR 4 of left, else refused", maker, x -> x.left(0, 6, 4, 0), BAD);
            Edges.refused("COLOUR -1 of left, else refused", maker, x -> x.left(0, 6, -1, 0), BAD);
            Edges.refused("URN 2 of left, else refused", maker, x -> x.left(2, 6, 0, 0), BAD);
        }
        Edges.refused("k 400, not EVEN", ChanceEdgesTest::notEven, x -> x.left(0, 6, 0, 400), NO);
        Edges.refused("k 400, BIG", ChanceEdgesTest::great, x -> x.left(0, 6, 0, 400), BIG);
        for (int colours = 2; colours <= 4; colours++) {
            int k = colours;
            Edges.range("COLOUR of left", () -> ones(k), 0, k - 1, BAD, (x, c) -> x.left(0, 1, c, 1));
        }
    }

    private static void leftTells() {
        GrowingUrns x = Edges.like(0, 200, 1, 0, 199);
        int[] balls = {200, 1, 0, 199};
        for (int c = 0; c < 4; c++) {
            int colour = c;
            for (int n = 0; n <= 2; n++) {
                int draws = n;
                for (int k : new int[] {0, 1, 2, 198, 199, 200, 201, 399, 400}) {
                    Edges.fraction(k + " of " + c, x, y -> y.left(0, draws, colour, k), k == balls[c] ? 1 : 0, 0, 1);
                }
            }
        }
        GrowingUrns move = Edges.with(some(1, 1), some(-1, 1), some(1, -1));
        Edges.fraction("0 comes", move, y -> y.left(0, 1, 0, 2), 0, 1, 2);
        Edges.fraction("0 goes", move, y -> y.left(0, 1, 0, 0), 0, 1, 2);
        Edges.fraction("as it was", move, y -> y.left(0, 2, 0, 1), 1, 0, 1);
    }

    private static void meanNumbers() {
        Edges.range("m of mean", ChanceEdgesTest::plain, 1, 3, BAD, (x, m) -> x.mean(0, 3, 0, m));
        for (Edges.Maker maker : refusing()) {
            Edges.beside("m of mean, else refused", maker, 1, 3, BAD, (x, m) -> x.mean(0, 6, 0, m));
            Edges.refused("COLOUR 4 of mean, else refused", maker, x -> x.mean(0, 6, 4, 1), BAD);
            Edges.refused("COLOUR -1 of mean, else refused", maker, x -> x.mean(0, 6, -1, 1), BAD);
            Edges.refused("URN 2 of mean, else refused", maker, x -> x.mean(2, 6, 0, 1), BAD);
            Edges.refused("URN 2 of stuck, else refused", maker, x -> x.stuck(2, 6), BAD);
        }
        for (int colours = 2; colours <= 4; colours++) {
            int k = colours;
            Edges.range("COLOUR of mean", () -> ones(k), 0, k - 1, BAD, (x, c) -> x.mean(0, 1, c, 1));
        }
    }

    private static void meanTells() {
        GrowingUrns x = plain();
        Edges.fraction("2 1/3 and 1 2/3", x, y -> y.mean(0, 1, 0, 1), 1, 1, 3);
        Edges.fraction("4 1/3 and 1 2/3", x, y -> y.mean(0, 1, 0, 2), 2, 0, 1);
        Edges.fraction("8 1/3 and 1 2/3", x, y -> y.mean(0, 1, 0, 3), 3, 1, 3);
        Edges.fraction("13 of 12 DRAWS", Edges.like(1, 1, 0), y -> y.mean(0, 12, 0, 3), 2197, 0, 1);
        Edges.fraction("none of 12 DRAWS", Edges.like(1, 1, 0), y -> y.mean(0, 12, 1, 3), 0, 0, 1);
        GrowingUrns four = Edges.like(0, 1, 2, 3, 200);
        long[] balls = {1, 2, 3, 200};
        for (int c = 0; c < 4; c++) {
            int colour = c;
            Edges.fraction("BALLS of " + c, four, y -> y.mean(0, 2, colour, 1), balls[c], 0, 1);
            Edges.fraction("their square", four, y -> y.mean(0, 2, colour, 2), balls[c] * balls[c], 0, 1);
            Edges.fraction("third power", four, y -> y.mean(0, 2, colour, 3), balls[c] * balls[c] * balls[c], 0, 1);
        }
    }

    // ---- promise 23

    private static void toldRefused(String what, Edges.Call call, int want) {
        Edges.refused(what, ChanceEdgesTest::plain, call, want);
        for (Edges.Maker maker : refusing()) {
            Edges.refused(what + ", else refused", maker, call, want);
        }
    }

    private static void toldNumbers() {
        Edges.fraction("1 by 2", plain(), y -> y.told(0, 1, 0, 2, 0), 0, 1, 2);
        Edges.fraction("11 by 12", plain(), y -> y.told(0, 11, 0, 12, 0), 0, 1, 2);
        Edges.fraction("1 by 12", plain(), y -> y.told(0, 1, 1, 12, 0), 0, 1, 2);
        toldRefused("0 by 1", x -> x.told(0, 0, 0, 1, 0), BAD);
        toldRefused("0 by 12", x -> x.told(0, 0, 0, 12, 0), BAD);
        toldRefused("-1 by 2", x -> x.told(0, -1, 0, 2, 0), BAD);
        toldRefused("12 by 13", x -> x.told(0, 12, 0, 13, 0), BAD);
        toldRefused("1 by 13", x -> x.told(0, 1, 0, 13, 0), BAD);
        toldRefused("LOW by 2", x -> x.told(0, LOW, 0, 2, 0), BAD);
        toldRefused("1 by HIGH", x -> x.told(0, 1, 0, HIGH, 0), BAD);
        toldRefused("HIGH by LOW", x -> x.told(0, HIGH, 0, LOW, 0), BAD);
        for (int i = 1; i <= 12; i++) {
            int same = i;
            toldRefused(i + " by itself", x -> x.told(0, same, 0, same, 0), BAD);
            toldRefused(i + " by the one ahead", x -> x.told(0, same, 0, same - 1, 0), BAD);
        }
        toldRefused("COLOUR 4", x -> x.told(0, 1, 4, 2, 0), BAD);
        toldRefused("COLOUR -1", x -> x.told(0, 1, -1, 2, 0), BAD);
        toldRefused("told COLOUR 4", x -> x.told(0, 1, 0, 2, 4), BAD);
        toldRefused("told COLOUR -1", x -> x.told(0, 1, 0, 2, -1), BAD);
        toldRefused("URN 2", x -> x.told(2, 1, 0, 2, 0), BAD);
        toldRefused("URN -1", x -> x.told(-1, 1, 0, 2, 0), BAD);
        for (int colours = 2; colours <= 4; colours++) {
            int k = colours;
            Edges.range("COLOUR of told", () -> ones(k), 0, k - 1, BAD, (x, c) -> x.told(0, 1, c, 2, 0));
            Edges.range("told COLOUR", () -> ones(k), 0, k - 1, BAD, (x, d) -> x.told(0, 1, 0, 2, d));
        }
    }

    private static void toldTells() {
        GrowingUrns turn = Edges.with(some(1, 1), some(0, 1), some(1, 0));
        Edges.fraction("0 0 of 0 0 and 1 0", turn, y -> y.told(0, 1, 0, 2, 0), 0, 1, 3);
        Edges.fraction("1 0 of 0 0 and 1 0", turn, y -> y.told(0, 1, 1, 2, 0), 0, 2, 3);
        Edges.fraction("0 1 of 0 1 and 1 1", turn, y -> y.told(0, 1, 0, 2, 1), 0, 2, 3);
        GrowingUrns off = Edges.like(-1, 2, 1);
        Edges.fraction("0 0 1 of 0 0 1 alone", off, y -> y.told(0, 1, 0, 3, 1), 1, 0, 1);
        Edges.fraction("none of 0 0 1", off, y -> y.told(0, 2, 1, 3, 1), 0, 0, 1);
        Edges.fraction("0 1 0 of 0 1 0 and 1 0 0", off, y -> y.told(0, 2, 1, 3, 0), 0, 1, 2);
        GrowingUrns full = Edges.like(1, 199, 100);
        Edges.fraction("0 0 is STUCK", full, y -> y.told(0, 1, 0, 2, 0), 0, 0, 1);
        Edges.fraction("1 0 is not", full, y -> y.told(0, 1, 1, 2, 0), 1, 0, 1);
        Edges.fraction("0 1 of 0 1 and 1 1", full, y -> y.told(0, 1, 0, 2, 1), 0, 199, 300);
    }

    /** COLOUR 1 comes by DRAWS of 0, and by one of 1 two of it are taken off. */
    private static GrowingUrns later() {
        return Edges.with(some(10, 0), some(-1, 1), some(2, -2));
    }

    private static void toldNo() {
        for (int j : new int[] {2, 7, 12}) {
            Edges.refused("no BALLS, " + j, ChanceEdgesTest::empty, x -> x.told(0, 1, 0, j, 0), NO);
            Edges.refused("no BALLS, s 0, " + j, () -> Edges.like(0, 0, 0), x -> x.told(0, 1, 0, j, 0), NO);
            Edges.refused("not EVEN, " + j, ChanceEdgesTest::notEven, x -> x.told(0, 1, 0, j, 0), NO);
            Edges.refused("not EVEN, would be BIG, " + j, () -> Edges.with(some(200, 200, 200, 200), some(-1)),
                x -> x.told(0, 1, 0, j, 0), NO);
            Edges.refused("none of it, " + j, () -> Edges.like(1, 3, 0), x -> x.told(0, 1, 0, j, 1), NO);
            Edges.refused("none of it, BIG, " + j, () -> Edges.like(0, 200, 0, 200, 200),
                x -> x.told(0, 1, 0, j, 1), NO);
            Edges.refused("STUCK by it, less than 0, " + j, () -> Edges.with(some(5, 3), some(0, 0), some(9, -9)),
                x -> x.told(0, 1, 0, j, 1), NO);
            Edges.refused("STUCK by it, more than 200, " + j, () -> Edges.with(some(200, 3), some(0, 0), some(1, -1)),
                x -> x.told(0, 1, 0, j, 1), NO);
        }
        Edges.due("the third BALL", Edges.like(-1, 2, 1).told(0, 1, 0, 3, 0), 0);
        Edges.refused("there are no BALLS any more", () -> Edges.like(-1, 2, 1), x -> x.told(0, 1, 0, 4, 0), NO);
        Edges.refused("all STUCK ahead", () -> Edges.like(-2, 3, 2), x -> x.told(0, 1, 0, 3, 0), NO);
        Edges.refused("the second can not be 1 yet", ChanceEdgesTest::later, x -> x.told(0, 1, 0, 2, 1), NO);
        Edges.fraction("the third can", later(), y -> y.told(0, 1, 0, 3, 1), 1, 0, 1);
        Edges.fraction("an earlier one can not be c", Edges.like(1, 3, 0), y -> y.told(0, 1, 1, 2, 0), 0, 0, 1);
        Edges.fraction("one BALL", Edges.like(1, 1, 0), y -> y.told(0, 1, 0, 2, 0), 1, 0, 1);
    }

    private static void toldBig() {
        Edges.fraction("D of 8 DRAWS at the limit", atLimit(), y -> y.told(0, 7, 1, 8, 0), 0, 4, 5);
        Edges.refused("D of 9 DRAWS", ChanceEdgesTest::atLimit, x -> x.told(0, 7, 1, 9, 0), BIG);
        Edges.refused("D of 12 DRAWS", ChanceEdgesTest::atLimit, x -> x.told(0, 1, 0, 12, 1), BIG);
        Edges.refused("D 10001225937977344", ChanceEdgesTest::justBig, x -> x.told(0, 1, 0, 6, 1), BIG);
        Edges.due("one DRAW less", justBig().told(0, 1, 0, 5, 1), 0);
        Edges.due("D 9994939590504960", even(some(110, 109, 109, 109), 3, 3, 3, 2).told(0, 1, 0, 6, 1), 0);
        Edges.due("27 to 16", Edges.like(-1, 14, 13).told(0, 1, 0, 12, 1), 0);
        Edges.refused("28 to 17", () -> Edges.like(-1, 14, 14), x -> x.told(0, 1, 0, 12, 1), BIG);
        Edges.refused("it can be, though its weight is 0 in 64 bits", () -> Edges.like(0, 64, 64),
            x -> x.told(0, 1, 0, 12, 1), BIG);
    }

    // ---- promise 24

    private static void shareNumbers() {
        Edges.range("m of share", ChanceEdgesTest::plain, 1, 4, BAD, (x, m) -> x.share(0, 0, m));
        Edges.beside("m of share, no BALLS", ChanceEdgesTest::empty, 1, 4, BAD, (x, m) -> x.share(0, 0, m));
        Edges.beside("m of share, not LIKE", ChanceEdgesTest::notEven, 1, 4, BAD, (x, m) -> x.share(0, 0, m));
        Edges.beside("URN of share", ChanceEdgesTest::plain, 0, 1, BAD, (x, u) -> x.share(u, 0, 1));
        Edges.beside("COLOUR of share, no BALLS", ChanceEdgesTest::empty, 0, 1, BAD, (x, c) -> x.share(0, c, 1));
        for (int colours = 2; colours <= 4; colours++) {
            int[] balls = new int[colours];
            balls[0] = 1;
            Edges.range("COLOUR of share", () -> Edges.like(1, balls), 0, colours - 1, BAD,
                (x, c) -> x.share(0, c, 1));
        }
    }

    private static void shareNo() {
        Edges.refused("s 0", () -> Edges.like(0, 1, 2), x -> x.share(0, 0, 1), NO);
        Edges.refused("s -1", () -> Edges.like(-1, 1, 2), x -> x.share(0, 0, 1), NO);
        Edges.refused("s -9", () -> Edges.like(-9, 1, 2), x -> x.share(0, 0, 1), NO);
        Edges.refused("not EVEN", ChanceEdgesTest::notEven, x -> x.share(0, 0, 1), NO);
        Edges.refused("EVEN, not LIKE", () -> even(some(1, 2), 1, 0), x -> x.share(0, 0, 1), NO);
        Edges.refused("the last not LIKE", () -> Edges.with(some(1, 2), some(1, 0), some(0, 2)),
            x -> x.share(0, 0, 1), NO);
        Edges.refused("no BALLS", ChanceEdgesTest::empty, x -> x.share(0, 0, 1), NO);
        Edges.refused("no BALLS, s 1", () -> Edges.like(1, 0, 0, 0), x -> x.share(0, 2, 4), NO);
        Edges.fraction("one BALL", Edges.like(1, 0, 1), y -> y.share(0, 1, 1), 1, 0, 1);
    }

    private static void shareTells() {
        GrowingUrns x = Edges.like(2, 1, 2);
        long[][] first = {{1, 3}, {1, 5}, {1, 7}, {1, 9}};
        long[][] second = {{2, 3}, {8, 15}, {16, 35}, {128, 315}};
        for (int m = 1; m <= 4; m++) {
            int power = m;
            Edges.fraction("0 to the " + m, x, y -> y.share(0, 0, power), 0, first[m - 1][0], first[m - 1][1]);
            Edges.fraction("1 to the " + m, x, y -> y.share(0, 1, power), 0, second[m - 1][0], second[m - 1][1]);
            Edges.fraction("none of it", Edges.like(9, 0, 200), y -> y.share(0, 0, power), 0, 0, 1);
            Edges.fraction("all of it", Edges.like(9, 0, 200), y -> y.share(0, 1, power), 1, 0, 1);
        }
        Edges.fraction("the greatest", Edges.like(9, 200, 200, 200, 200), y -> y.share(0, 3, 4), 0, 5171287,
            1094554348L);
    }

    // ---- promise 25

    private static void freeNumbers() {
        for (int n = 1; n <= 5; n++) {
            Edges.due("LIKE, n " + n, plain().free(0, n), 1);
        }
        Edges.beside("DRAWS of free", ChanceEdgesTest::plain, 1, 5, BAD, (x, n) -> x.free(0, n));
        Edges.beside("DRAWS of free, no BALLS", ChanceEdgesTest::empty, 1, 5, BAD, (x, n) -> x.free(0, n));
        Edges.beside("URN of free", ChanceEdgesTest::plain, 0, 1, BAD, (x, u) -> x.free(u, 1));
        Edges.refused("no BALLS, n 1", ChanceEdgesTest::empty, x -> x.free(0, 1), NO);
        Edges.refused("no BALLS, n 5", ChanceEdgesTest::empty, x -> x.free(0, 5), NO);
        Edges.due("one BALL", Edges.like(0, 0, 1).free(0, 5), 1);
        Edges.due("not EVEN, n 1", notEven().free(0, 1), 1);
    }

    /** The first n for which some rows of the same COLOURS differ; 6: there is none. */
    private static void freeUntil(String what, Edges.Maker maker, int first) {
        for (int n = 1; n <= 5 && n <= first; n++) {
            Edges.due(what + ", n " + n, maker.make().free(0, n), n < first ? 1 : 0);
        }
    }

    private static void freeTells() {
        freeUntil("0 0 is more, 1 0 less", () -> Edges.with(some(1, 2), some(1, 0)), 2);
        freeUntil("each adds the other, of 1 and 2", () -> Edges.with(some(1, 2), some(0, 1), some(1, 0)), 2);
        freeUntil("each adds the other, of 2 and 2", () -> Edges.with(some(2, 2), some(0, 1), some(1, 0)), 3);
        freeUntil("0 0 0 1 is STUCK, 0 0 1 0 is not", () -> Edges.with(some(2, 1), some(-1, 0), some(1, -1)), 4);
        freeUntil("1 1 1 1 0 alone is not STUCK", () -> Edges.with(some(2, 3), some(-9, 0), some(2, 2)), 5);
        freeUntil("taken off", () -> Edges.like(-1, 2, 1), 6);
        freeUntil("none ADDED", () -> Edges.like(0, 2, 1, 3, 4), 6);
        freeUntil("the greatest", ChanceEdgesTest::great, 6);
        freeUntil("the greatest, LIKE", () -> Edges.like(9, 191, 191, 191, 191), 6);
        freeUntil("STUCK in all ways", () -> Edges.like(-9, 9, 9), 6);
        freeUntil("1 goes away, and fewer are left", () -> Edges.with(some(200, 1), some(0, 0), some(0, -1)), 2);
        freeUntil("1 0 is STUCK, 0 1 is not", () -> Edges.with(some(1, 1), some(0, 0), some(-1, 1)), 2);
        freeUntil("0 1 is 1/4, 1 0 is 1/6", () -> Edges.with(some(1, 1), some(0, 0), some(0, 1)), 2);
        freeUntil("0 1 is 3/8, 1 0 is 1/8", () -> Edges.with(some(1, 1), some(0, 2), some(0, 2)), 2);
        freeUntil("of the last two of four", () -> Edges.with(some(5, 5, 1, 2), some(0), some(0), some(0, 0, 0, 1)),
            2);
    }

    private static void freeAgain() {
        GrowingUrns x = plain();
        Edges.due("of 1 and 2", x.free(0, 3), 1);
        x.put(0, 0, 5);
        Edges.due("of 5 and 2", x.free(0, 3), 1);
        Edges.due("fewer DRAWS", x.free(0, 2), 1);
        x.add(0, 0, 1, 1);
        Edges.due("not LIKE any more", x.free(0, 3), 0);
        x.add(0, 0, 1, 0);
        Edges.due("LIKE again", x.free(0, 3), 1);
    }

    private static void freeKeepsTheFraction() {
        GrowingUrns x = plain();
        x.free(0, 5);
        Edges.fractionIs("THE FRACTION behind 1", x, 1, 1, 3);
        GrowingUrns y = notEven();
        Edges.due("not free", y.free(0, 2), 0);
        Edges.fractionIs("THE FRACTION behind 0", y, 1, 1, 3);
        Edges.due("nothing is drawn", x.about(0, 2) + y.about(0, 2), 0);
    }

    // ---- promises 26 and 27

    private static void partNumbers() {
        GrowingUrns x = plain();
        Edges.due("WHOLE", x.part(0), 1);
        Edges.due("above", x.part(1), 1);
        Edges.due("below", x.part(2), 3);
        Edges.beside("what of part", ChanceEdgesTest::plain, 0, 2, BAD, (y, what) -> y.part(what));
    }

    private static void countNumbers() {
        GrowingUrns x = plain();
        int acts = x.count(1);
        Edges.due("URNS", x.count(0), 2);
        Edges.due("DRAWS", x.count(2), 1);
        Edges.due("the SEED", x.count(3), 4711);
        x.draw(0, 0);
        x.draw(0, 1);
        Edges.due("DRAWS of both", x.count(2), 3);
        Edges.due("acts", x.count(1), acts + 2);
        x.undo();
        Edges.due("DRAWS taken back", x.count(2), 2);
        Edges.due("acts taken back", x.count(1), acts + 1);
        x.urn(3);
        Edges.due("URNS", x.count(0), 3);
        x.seed(2147483646);
        Edges.due("the SEED", x.count(3), 2147483646);
        Edges.beside("what of count", ChanceEdgesTest::plain, 0, 3, BAD, (y, what) -> y.count(what));
    }

    public static void main(String[] args) {
        Edges.sentence("Terms: FRACTIONS are told in lowest terms", ChanceEdgesTest::lowestTerms);
        Edges.sentence("Terms: above, below (0 and 1, if nothing is)", ChanceEdgesTest::nothingIsLeft);
        Edges.sentence("18: the product of CHANCES, one behind the other", ChanceEdgesTest::product);
        Edges.sentence("18: 0 if a DRAW of it is STUCK", ChanceEdgesTest::zeroIfStuck);
        Edges.sentence("18: BIG: one of both would be above 1000000000000000000", ChanceEdgesTest::bigRow);
        Edges.sentence("18: BIG: in lowest terms", ChanceEdgesTest::bigInLowestTerms);
        Edges.sentence("18: BIG: asked behind each DRAW", ChanceEdgesTest::bigBehindEach);
        Edges.sentence("18: n DRAWS (0 to 12); BAD: row below 0", ChanceEdgesTest::chanceNumbers);
        Edges.sentence("18: the first COLOUR is row modulo 4, the next one the rest divided by 4 modulo 4",
            ChanceEdgesTest::rowPlaces);
        Edges.sentence("18: of n DRAWS, none behind", ChanceEdgesTest::rowNotLookedAt);
        Edges.sentence("18: BAD: also a COLOUR that is none", ChanceEdgesTest::rowOfNone);
        Edges.sentence("18: NO: it has no BALLS (n above 0)", ChanceEdgesTest::chanceNo);
        Edges.sentence("18: of several the first: BAD; NO; BIG", ChanceEdgesTest::chanceFirst);
        Edges.sentence("Terms: AFTER n DRAWS (0 to 12); BAD first", ChanceEdgesTest::afterNumbers);
        Edges.sentence("19 to 22: NO: not EVEN, or it has no BALLS; then BIG", ChanceEdgesTest::afterNo);
        Edges.sentence("Terms: BIG: D is above 10000000000000000", ChanceEdgesTest::bigD);
        Edges.sentence("Terms: BIG of D, as far as they are above 0", ChanceEdgesTest::bigDAboveZero);
        Edges.sentence("Terms: D at the limit", ChanceEdgesTest::valuesAtTheLimit);
        Edges.sentence("Terms: D is T (T + s) (T + 2 s) .., as far as they are above 0", ChanceEdgesTest::dAboveZero);
        Edges.sentence("21: there were no BALLS any more ahead of them", ChanceEdgesTest::noBallsAnyMore);
        Edges.sentence("Terms: An URN without BALLS is STUCK, and no other", ChanceEdgesTest::ballsOfAllColours);
        Edges.sentence("Terms: its chance is that of its DRAWS ahead and of the COLOUR by which it is STUCK",
            ChanceEdgesTest::stuckRows);
        Edges.sentence("19: BAD (k 0 to 12)", ChanceEdgesTest::timesNumbers);
        Edges.sentence("19: That COLOUR c was drawn k times AFTER n DRAWS", ChanceEdgesTest::timesTells);
        Edges.sentence("20: BAD (k 0 to 400)", ChanceEdgesTest::leftNumbers);
        Edges.sentence("20: That there are k BALLS of COLOUR c AFTER n DRAWS", ChanceEdgesTest::leftTells);
        Edges.sentence("22: (1 to 3)", ChanceEdgesTest::meanNumbers);
        Edges.sentence("22: THE MEAN of BALLS of COLOUR c to the power m", ChanceEdgesTest::meanTells);
        Edges.sentence("23: DRAW j (above i, 1 to 12 both); BAD first", ChanceEdgesTest::toldNumbers);
        Edges.sentence("23: That DRAW i is c, if it is told that DRAW j is d", ChanceEdgesTest::toldTells);
        Edges.sentence("23: NO: likewise, or DRAW j can not be d; then BIG", ChanceEdgesTest::toldNo);
        Edges.sentence("23: BIG", ChanceEdgesTest::toldBig);
        Edges.sentence("24: (1 to 4); of several the first: BAD", ChanceEdgesTest::shareNumbers);
        Edges.sentence("24: of a LIKE URN with s above 0; NO: not so, or it has no BALLS", ChanceEdgesTest::shareNo);
        Edges.sentence("24: the product of (BALLS of c and i s) by (T and i s) for i 0 to m - 1",
            ChanceEdgesTest::shareTells);
        Edges.sentence("25: n DRAWS (1 to 5); BAD; NO: it has no BALLS", ChanceEdgesTest::freeNumbers);
        Edges.sentence("25: for all that have the same COLOURS, so often, in whatever order",
            ChanceEdgesTest::freeTells);
        Edges.sentence("25: as the URN is when it is asked", ChanceEdgesTest::freeAgain);
        Edges.sentence("25: THE FRACTION stays", ChanceEdgesTest::freeKeepsTheFraction);
        Edges.sentence("26: 0 the WHOLE part, 1 above, 2 below. BAD", ChanceEdgesTest::partNumbers);
        Edges.sentence("27: 0 URNS, 1 acts, 2 DRAWS done in all, 3 the SEED. BAD", ChanceEdgesTest::countNumbers);
        Edges.end();
    }
}
