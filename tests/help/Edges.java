import java.util.Arrays;
import java.util.stream.LongStream;

/** What the edge tests share: the sentence that is asked, numbers on both sides of an edge, calls that are refused. */
final class Edges {
    static final int BAD = -1, NO = -2, FULL = -3, NONE = -4, STUCK = -5, BIG = -6;
    static final int NULL = -11, INDEX = -12, SIZE = -13, STORE = -14, OUT = -15;
    static final int BAD_ADDED = -100, BAD_ABOUT = -1000;
    static final int LOW = Integer.MIN_VALUE, HIGH = Integer.MAX_VALUE;

    // The SHEETS of each object that is made here; SHEET 4 is MISSING.
    private static final int[] KINDS = {0, 1, 2, 1, -1, 2};
    private static final int[] SIZES = {3, 4, 2, 0, 0, 5};

    private static String words = "";
    private static int sentences = 0;
    private static int asked = 0;
    private static int wrong = 0;

    /** Makes the same object each time, so that it can be held against one of which no call was refused. */
    interface Maker {
        GrowingUrns make();
    }

    interface Call {
        long on(GrowingUrns x);
    }

    interface NumberCall {
        long on(GrowingUrns x, int number);
    }

    private Edges() {
    }

    /** One sentence of the document and what is asked of it. */
    static void sentence(String told, Runnable asks) {
        words = told;
        sentences++;
        int before = asked;
        try {
            asks.run();
        } catch (RuntimeException thrown) {
            fail("threw " + thrown);
        }
        if (asked == before) {
            fail("nothing was asked");
        }
    }

    static void end() {
        System.out.println(wrong == 0 ? sentences + " sentences, " + asked + " answers are as due"
            : wrong + " answers are not as due");
        if (wrong != 0) {
            System.exit(1);
        }
    }

    private static void fail(String what) {
        wrong++;
        System.out.println("\"" + words + "\": " + what);
    }

    static void due(String what, long got, long want) {
        asked++;
        if (got != want) {
            fail(what + " answered " + got + ", due is " + want);
        }
    }

    static void same(String what, long[] got, long[] want) {
        asked++;
        if (!Arrays.equals(got, want)) {
            fail(what + " are " + Arrays.toString(got) + ", due are " + Arrays.toString(want));
        }
    }

    /** A call that tells THE FRACTION. */
    static void fraction(String what, GrowingUrns x, Call call, long whole, long above, long below) {
        due(what, call.on(x), 0);
        fractionIs(what, x, whole, above, below);
    }

    static void fractionIs(String what, GrowingUrns x, long whole, long above, long below) {
        same("the parts of " + what, new long[] {x.part(0), x.part(1), x.part(2)}, new long[] {whole, above, below});
    }

    /** The last numbers that are taken, and the first that are refused, on both sides; and two far off. */
    static void range(String what, Maker maker, int low, int high, long refusal, NumberCall call) {
        due("the least " + what + " " + low + " is taken", call.on(maker.make(), low), 0);
        due("the greatest " + what + " " + high + " is taken", call.on(maker.make(), high), 0);
        beside(what, maker, low, high, refusal, call);
    }

    /** Only the refused ones of range(). */
    static void beside(String what, Maker maker, int low, int high, long refusal, NumberCall call) {
        for (int number : new int[] {low - 1, high + 1, LOW, HIGH}) {
            refused(what + " " + number, maker, x -> call.on(x, number), refusal);
        }
    }

    /** A call that is refused: nothing that the object shows has changed, nor what comes then. */
    static void refused(String what, Maker maker, Call call, long refusal) {
        GrowingUrns x = maker.make();
        long[] ahead = look(x);
        due(what, call.on(x), refusal);
        same("about, added, holds, count, part behind " + what, look(x), ahead);
        same("what comes behind " + what, goOn(x), goOn(maker.make()));
    }

    /** A call that is one act: it can be taken back, and then all is as it was. */
    static void act(String what, Maker maker, Call call) {
        GrowingUrns x = maker.make();
        long[] ahead = look(x);
        int acts = x.count(1);
        call.on(x);
        due("acts behind " + what, x.count(1), acts + 1);
        due("undo() of " + what, x.undo(), 1);
        same("about, added, holds, count, part behind undo() of " + what, look(x), ahead);
        same("what comes behind undo() of " + what, goOn(x), goOn(maker.make()));
    }

    /** A call that is done, and yet no act: undo() takes back the act ahead of it, draw(1, 1) of with(). */
    static void noAct(String what, Maker maker, Call call) {
        GrowingUrns x = maker.make();
        int acts = x.count(1);
        int draws = x.about(1, 2);
        call.on(x);
        due("acts behind " + what, x.count(1), acts);
        x.undo();
        due("DRAWS behind " + what + " and undo()", x.about(1, 2), draws - 1);
        due("acts behind " + what + " and undo()", x.count(1), acts - 1);
    }

    /** An object with URN 0 of these BALLS and these rows ADDED (0 beyond them), and more to be seen. */
    static GrowingUrns with(int[] balls, int[]... rows) {
        GrowingUrns x = new GrowingUrns();
        laySheets(x);
        x.urn(balls.length);
        for (int c = 0; c < balls.length; c++) {
            x.put(0, c, balls[c]);
        }
        for (int c = 0; c < rows.length; c++) {
            for (int d = 0; d < rows[c].length; d++) {
                if (rows[c][d] != 0) {
                    x.add(0, c, d, rows[c][d]);
                }
            }
        }
        x.urn(2);
        x.put(1, 0, 1);
        x.put(1, 1, 2);
        x.add(1, 0, 0, 1);
        x.add(1, 1, 1, 1);
        x.is(1, 0, 0);
        x.mean(1, 1, 0, 1);
        x.seed(4711);
        x.draw(1, 1);
        return x;
    }

    /** As with(), LIKE where s is at least 0: s of the drawn COLOUR. */
    static GrowingUrns like(int s, int... balls) {
        int[][] rows = new int[balls.length][balls.length];
        for (int c = 0; c < balls.length; c++) {
            rows[c][c] = s;
        }
        return with(balls, rows);
    }

    static int[] some(int... numbers) {
        return numbers;
    }

    /** What is laid at each place of the SHEETS of with(). */
    static int laid(int r, int i) {
        return 10 * r + i + 1;
    }

    private static void laySheets(GrowingUrns x) {
        for (int r = 0; r < KINDS.length; r++) {
            if (KINDS[r] >= 0) {
                x.sheet(r, KINDS[r], SIZES[r]);
            }
            for (int i = 0; i < SIZES[r]; i++) {
                x.lay(r, i, laid(r, i));
            }
        }
    }

    /** All that about, added, holds, count and part tell. */
    static long[] look(GrowingUrns x) {
        LongStream.Builder seen = LongStream.builder();
        for (int what = 0; what < 4; what++) {
            seen.add(x.count(what));
        }
        for (int what = 0; what < 3; what++) {
            seen.add(x.part(what));
        }
        for (int u = 0; u < x.count(0); u++) {
            int colours = x.about(u, 0);
            for (int what = 1; what < 6 + colours; what++) {
                seen.add(x.about(u, what));
            }
            for (int place = 0; place < colours * colours; place++) {
                seen.add(x.added(u, place / colours, place % colours));
            }
        }
        for (int r = 0; r < KINDS.length; r++) {
            for (int i = 0; i <= SIZES[r]; i++) {
                seen.add(x.holds(r, i, laid(r, i)));
            }
        }
        return seen.build().toArray();
    }

    /** What the object does from here on: acts that are kept, the SEED and what COLOURS are show here. */
    private static long[] goOn(GrowingUrns x) {
        return new long[] {x.undo(), x.count(3), x.about(1, 1), x.drawn(1), x.shake(1, 3), x.count(3), x.about(0, 1),
            x.undo(), x.undo(), x.undo(), x.count(1), x.is(1, 0, -1), x.is(1, 1, -1), x.lay(0, 0, 300),
            x.holds(0, 0, 44)};
    }
}
