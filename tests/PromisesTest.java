/** Each promise by hand: ordinary numbers, the edges that the document names, wrong numbers. */
public final class PromisesTest {
    private static final int BAD = -1, NO = -2, FULL = -3, NONE = -4, STUCK = -5, BIG = -6;
    private static final int NULL = -11, INDEX = -12, SIZE = -13, STORE = -14, OUT = -15;
    private static final int LOW = Integer.MIN_VALUE, HIGH = Integer.MAX_VALUE;

    private static int promise = 0;
    private static int asked = 0;
    private static int wrong = 0;

    private static void due(String what, long got, long want) {
        asked++;
        if (got != want) {
            wrong++;
            System.out.println("promise " + promise + ": " + what + " answered " + got + ", due is " + want);
        }
    }

    private static void fraction(String what, GrowingUrns x, long whole, long above, long below) {
        due(what + ", WHOLE", x.part(0), whole);
        due(what + ", above", x.part(1), above);
        due(what + ", below", x.part(2), below);
    }

    /** An object whose URN 0 has these BALLS and ADDED s of the drawn COLOUR. */
    private static GrowingUrns like(int s, int... balls) {
        GrowingUrns x = new GrowingUrns();
        x.urn(balls.length);
        fill(x, 0, balls);
        for (int c = 0; c < balls.length; c++) {
            x.add(0, c, c, s);
        }
        return x;
    }

    private static void fill(GrowingUrns x, int urn, int... balls) {
        for (int c = 0; c < balls.length; c++) {
            x.put(urn, c, balls[c]);
        }
    }

    private static GrowingUrns withSheet(int kind, long... places) {
        GrowingUrns x = new GrowingUrns();
        x.sheet(0, kind, places.length);
        for (int i = 0; i < places.length; i++) {
            x.lay(0, i, places[i]);
        }
        return x;
    }

    private static void newObject() {
        GrowingUrns x = new GrowingUrns();
        due("URNS", x.count(0), 0);
        due("acts", x.count(1), 0);
        due("DRAWS", x.count(2), 0);
        due("SEED", x.count(3), 1);
        fraction("THE FRACTION", x, 0, 0, 1);
        for (int r = 0; r < 6; r++) {
            due("SHEET " + r, x.holds(r, 0, 0), NULL);
        }
        due("about(0, 0)", x.about(0, 0), -1000);
        GrowingUrns y = like(1, 1, 2);
        y.seed(77);
        y.chance(0, 1, 0);
        due("another object's SEED", x.count(3), 1);
        due("another object's URNS", x.count(0), 0);
        fraction("another object's FRACTION", x, 0, 0, 1);
    }

    private static void sheet() {
        GrowingUrns x = new GrowingUrns();
        for (int kind = 0; kind < 3; kind++) {
            due("sheet of sort " + kind, x.sheet(kind, kind, 16), 0);
            due("its place 15", x.holds(kind, 15, 0), 1);
            due("its place 16", x.holds(kind, 16, 0), INDEX);
        }
        due("sheet(5, 1, 0)", x.sheet(5, 1, 0), 0);
        due("no place", x.holds(5, 0, 0), INDEX);
        due("n 17", x.sheet(0, 0, 17), BAD);
        due("n HIGH", x.sheet(0, 0, HIGH), BAD);
        due("n -1", x.sheet(0, 0, -1), SIZE);
        due("n LOW", x.sheet(0, 2, LOW), SIZE);
        due("sort 3", x.sheet(0, 3, 1), BAD);
        due("sort -2", x.sheet(0, -2, 1), BAD);
        due("SHEET 6", x.sheet(6, 0, 1), BAD);
        due("SHEET -1", x.sheet(-1, 0, 1), BAD);
        due("BAD ahead of SIZE", x.sheet(6, 0, -1), BAD);
        due("BAD sort ahead of SIZE", x.sheet(0, 3, -1), BAD);
        due("refused ones change nothing", x.holds(0, 15, 0), 1);
        x.lay(0, 3, 9);
        due("made anew", x.sheet(0, 0, 5), 0);
        due("all 0 again", x.holds(0, 3, 0), 1);
        due("shorter now", x.holds(0, 5, 0), INDEX);
        due("MISSING, n 17", x.sheet(0, -1, 17), 0);
        due("MISSING", x.holds(0, 0, 0), NULL);
        due("MISSING, n -1", x.sheet(1, -1, -1), 0);
        due("MISSING, SHEET 6", x.sheet(6, -1, 0), BAD);
        due("no act", x.count(1), 0);
    }

    private static void lay() {
        GrowingUrns x = withSheet(0, 0, 0);
        due("lay 300", x.lay(0, 1, 300), 0);
        due("cut to a byte", x.holds(0, 1, 44), 1);
        due("the other place", x.holds(0, 0, 0), 1);
        x.lay(0, 1, 128);
        due("a byte below 0", x.holds(0, 1, -128), 1);
        x.sheet(1, 1, 1);
        x.lay(1, 0, 4294967297L);
        due("cut to an int", x.holds(1, 0, 1), 1);
        x.lay(1, 0, 2147483648L);
        due("an int below 0", x.holds(1, 0, -2147483648L), 1);
        x.sheet(2, 2, 1);
        x.lay(2, 0, Long.MIN_VALUE);
        due("a long", x.holds(2, 0, Long.MIN_VALUE), 1);
        due("SHEET 6", x.lay(6, 0, 1), BAD);
        due("SHEET -1", x.lay(-1, 0, 1), BAD);
        due("MISSING", x.lay(3, 0, 1), NULL);
        due("NULL ahead of INDEX", x.lay(3, -1, 1), NULL);
        due("place -1", x.lay(0, -1, 1), INDEX);
        due("place 2", x.lay(0, 2, 1), INDEX);
        due("place LOW", x.lay(0, LOW, 1), INDEX);
        due("place HIGH", x.lay(0, HIGH, 1), INDEX);
        due("no act", x.count(1), 0);
    }

    private static void copy() {
        GrowingUrns x = withSheet(1, 1, 2, 3, 4, 5);
        due("up in itself", x.copy(0, 0, 0, 1, 4), 0);
        long[] up = {1, 1, 2, 3, 4};
        for (int i = 0; i < 5; i++) {
            due("as ahead of all " + i, x.holds(0, i, up[i]), 1);
        }
        due("down in itself", x.copy(0, 1, 0, 0, 4), 0);
        long[] down = {1, 2, 3, 4, 4};
        for (int i = 0; i < 5; i++) {
            due("as ahead of all " + i, x.holds(0, i, down[i]), 1);
        }
        x.sheet(1, 1, 3);
        due("to another", x.copy(0, 2, 1, 0, 3), 0);
        due("it came", x.holds(1, 1, 4), 1);
        due("none at the end", x.copy(0, 5, 1, 3, 0), 0);
        due("none beyond", x.copy(0, 6, 1, 0, 0), INDEX);
        due("none beyond there", x.copy(0, 0, 1, 4, 0), INDEX);
        due("n -1", x.copy(0, 0, 1, 0, -1), INDEX);
        due("i -1", x.copy(0, -1, 1, 0, 1), INDEX);
        due("j -1", x.copy(0, 0, 1, -1, 1), INDEX);
        due("beyond from", x.copy(1, 1, 0, 0, 3), INDEX);
        due("beyond to", x.copy(0, 0, 1, 1, 3), INDEX);
        due("i and n HIGH", x.copy(0, HIGH, 1, 0, HIGH), INDEX);
        due("j HIGH", x.copy(0, 0, 1, HIGH, 1), INDEX);
        due("n HIGH", x.copy(0, 1, 1, 1, HIGH), INDEX);
        due("MISSING from", x.copy(4, 0, 1, 0, 1), NULL);
        due("MISSING to", x.copy(0, 0, 4, 0, 1), NULL);
        due("NULL ahead of INDEX", x.copy(0, -1, 4, 0, 1), NULL);
        x.sheet(2, 2, 3);
        due("unlike sorts", x.copy(0, 0, 2, 0, 1), STORE);
        due("STORE ahead of INDEX", x.copy(0, 9, 2, 0, 1), STORE);
        due("none of unlike sorts", x.copy(0, 0, 2, 0, 0), STORE);
        due("SHEET 6", x.copy(0, 0, 6, 0, 1), BAD);
        due("SHEET -1", x.copy(-1, 0, 0, 0, 1), BAD);
        due("BAD ahead of NULL", x.copy(4, 0, 6, 0, 1), BAD);
        due("refused ones change nothing", x.holds(1, 0, 3), 1);
    }

    private static void holds() {
        GrowingUrns x = withSheet(0, 44, -1);
        due("it holds", x.holds(0, 0, 44), 1);
        due("another", x.holds(0, 0, 45), 0);
        due("v is not cut", x.holds(0, 0, 300), 0);
        due("below 0", x.holds(0, 1, -1), 1);
        due("as a byte without sign", x.holds(0, 1, 255), 0);
        due("place 2", x.holds(0, 2, 0), INDEX);
        due("place -1", x.holds(0, -1, 0), INDEX);
        due("MISSING", x.holds(1, 0, 0), NULL);
        due("SHEET 6", x.holds(6, 0, 0), BAD);
        due("SHEET LOW", x.holds(LOW, 0, 0), BAD);
    }

    private static void read() {
        GrowingUrns x = withSheet(1, 5, 0, 200, 9, -9, 10, 201, -1);
        x.urn(3);
        due("BALLS; c is not looked at", x.read(0, 0, 99, 0, 0), 0);
        due("COLOUR 0", x.about(0, 6), 5);
        due("COLOUR 1", x.about(0, 7), 0);
        due("COLOUR 2", x.about(0, 8), 200);
        due("ADDED, 200 is too many", x.read(0, 1, 1, 0, 2), OUT);
        x.lay(0, 2, 7);
        due("ADDED", x.read(0, 1, 1, 0, 2), 0);
        due("ADDED 1, 0", x.added(0, 1, 0), 7);
        due("ADDED 1, 1", x.added(0, 1, 1), 9);
        due("ADDED 1, 2", x.added(0, 1, 2), -9);
        due("ADDED 0, 0", x.added(0, 0, 0), 0);
        due("ADDED 10", x.read(0, 1, 1, 0, 3), OUT);
        due("BALLS 201", x.read(0, 0, 0, 0, 5), OUT);
        due("BALLS -9", x.read(0, 0, 0, 0, 4), OUT);
        due("beyond, and one is out", x.read(0, 0, 0, 0, 6), INDEX);
        due("place -1", x.read(0, 0, 0, 0, -1), INDEX);
        due("place HIGH", x.read(0, 0, 0, 0, HIGH), INDEX);
        due("MISSING", x.read(0, 0, 0, 1, 0), NULL);
        due("URN 1", x.read(1, 0, 0, 0, 0), BAD);
        due("URN -1", x.read(-1, 0, 0, 0, 0), BAD);
        due("rule 2", x.read(0, 2, 0, 0, 0), BAD);
        due("rule -1", x.read(0, -1, 0, 0, 0), BAD);
        due("COLOUR 3", x.read(0, 1, 3, 0, 0), BAD);
        due("COLOUR -1", x.read(0, 1, -1, 0, 0), BAD);
        due("SHEET 6", x.read(0, 0, 0, 6, 0), BAD);
        due("BAD ahead of NULL", x.read(0, 2, 0, 1, 0), BAD);
        due("refused ones change nothing", x.about(0, 1), 205);
        due("acts", x.count(1), 2);
        x.undo();
        due("taken back", x.added(0, 1, 2), 0);
        x.sheet(2, 2, 2);
        x.lay(2, 0, 4294967296L);
        x.urn(2);
        due("a long is not cut", x.read(1, 0, 0, 2, 0), OUT);
        x.sheet(3, 0, 2);
        x.lay(3, 0, 127);
        due("of bytes", x.read(1, 0, 0, 3, 0), 0);
        due("of bytes", x.about(1, 6), 127);
        x.lay(3, 1, -1);
        due("BALLS -1", x.read(1, 0, 0, 3, 0), OUT);
        due("ADDED 127", x.read(1, 1, 0, 3, 0), OUT);
    }

    private static void urn() {
        GrowingUrns x = new GrowingUrns();
        due("1 COLOUR", x.urn(1), BAD);
        due("5 COLOURS", x.urn(5), BAD);
        due("LOW", x.urn(LOW), BAD);
        for (int u = 0; u < 8; u++) {
            due("URN " + u, x.urn(2 + u % 3), u);
            due("its COLOURS", x.about(u, 0), 2 + u % 3);
        }
        due("one more", x.urn(2), FULL);
        due("BAD ahead of FULL", x.urn(5), BAD);
        due("URNS", x.count(0), 8);
        due("no act", x.count(1), 0);
        due("no BALLS", x.about(7, 1), 0);
        due("none ADDED", x.added(7, 0, 0), 0);
        due("IS none", x.is(7, 0, 6), NONE);
        GrowingUrns y = new GrowingUrns();
        y.urn(2);
        y.put(0, 0, 5);
        y.urn(3);
        y.undo();
        due("undo() takes no URN back", y.count(0), 2);
        due("its COLOURS stay", y.about(1, 0), 3);
    }

    private static void put() {
        GrowingUrns x = new GrowingUrns();
        x.urn(3);
        due("put 200", x.put(0, 2, 200), 0);
        due("put 0", x.put(0, 2, 0), 200);
        due("the same once more", x.put(0, 2, 0), 0);
        due("all are acts", x.count(1), 3);
        due("201", x.put(0, 0, 201), BAD);
        due("-1", x.put(0, 0, -1), BAD);
        due("COLOUR 3", x.put(0, 3, 1), BAD);
        due("COLOUR -1", x.put(0, -1, 1), BAD);
        due("URN 1", x.put(1, 0, 1), BAD);
        due("URN -1", x.put(-1, 0, 1), BAD);
        due("refused ones are no acts", x.count(1), 3);
        due("nothing changed", x.about(0, 1), 0);
    }

    private static void add() {
        GrowingUrns x = new GrowingUrns();
        x.urn(2);
        due("add 9", x.add(0, 0, 1, 9), 0);
        due("add -9", x.add(0, 0, 1, -9), 9);
        due("what is there", x.added(0, 0, 1), -9);
        due("not the other way", x.added(0, 1, 0), 0);
        due("it was", x.add(0, 0, 1, 3), -9);
        due("10", x.add(0, 0, 1, 10), -100);
        due("-10", x.add(0, 0, 1, -10), -100);
        due("COLOUR 2", x.add(0, 2, 0, 1), -100);
        due("COLOUR 2", x.add(0, 0, 2, 1), -100);
        due("COLOUR -1", x.add(0, -1, 0, 1), -100);
        due("COLOUR -1", x.add(0, 0, -1, 1), -100);
        due("URN 1", x.add(1, 0, 0, 1), -100);
        due("URN -1", x.add(-1, 0, 0, 1), -100);
        due("acts", x.count(1), 3);
        due("nothing changed", x.added(0, 0, 1), 3);
    }

    private static void is() {
        GrowingUrns x = new GrowingUrns();
        x.urn(2);
        x.urn(3);
        x.urn(2);
        due("IS 0", x.is(2, 1, 0), NONE);
        due("IS 1", x.is(2, 1, 1), 0);
        due("IS none", x.is(2, 1, -1), 1);
        due("IS none again", x.is(2, 1, -1), NONE);
        due("itself", x.is(2, 1, 2), BAD);
        due("a greater one", x.is(0, 0, 1), BAD);
        due("one that is not", x.is(2, 0, 3), BAD);
        due("-2", x.is(2, 0, -2), BAD);
        due("LOW", x.is(2, 0, LOW), BAD);
        due("COLOUR 2", x.is(2, 2, 0), BAD);
        due("COLOUR -1", x.is(2, -1, 0), BAD);
        due("URN 3", x.is(3, 0, 0), BAD);
        due("URN -1", x.is(-1, 0, -1), BAD);
        due("acts", x.count(1), 4);
        x.undo();
        x.undo();
        due("taken back", x.is(2, 1, 0), 1);
    }

    private static void about() {
        GrowingUrns x = like(2, 3, 4, 5);
        due("COLOURS", x.about(0, 0), 3);
        due("all BALLS", x.about(0, 1), 12);
        due("DRAWS", x.about(0, 2), 0);
        due("EVEN", x.about(0, 3), 1);
        due("s", x.about(0, 4), 2);
        due("LIKE", x.about(0, 5), 1);
        due("COLOUR 0", x.about(0, 6), 3);
        due("COLOUR 2", x.about(0, 8), 5);
        due("COLOUR 3", x.about(0, 9), -1000);
        due("-1", x.about(0, -1), -1000);
        due("LOW", x.about(0, LOW), -1000);
        due("HIGH", x.about(0, HIGH), -1000);
        due("URN 1", x.about(1, 0), -1000);
        due("URN -1", x.about(-1, 0), -1000);
        x.draw(0, 1);
        due("DRAWS", x.about(0, 2), 1);
        x.undo();
        due("DRAWS taken back", x.about(0, 2), 0);
        x.add(0, 1, 1, 1);
        due("not EVEN", x.about(0, 3), 0);
        due("no s", x.about(0, 4), 0);
        due("not LIKE", x.about(0, 5), 0);
        x.add(0, 1, 0, 1);
        due("EVEN again", x.about(0, 3), 1);
        due("s again", x.about(0, 4), 2);
        due("yet not LIKE", x.about(0, 5), 0);
        GrowingUrns w = like(1, 3, 3);
        w.add(0, 1, 1, 0);
        w.add(0, 1, 0, 1);
        due("the first row alike", w.about(0, 3), 1);
        due("the second is not", w.about(0, 5), 0);
        due("LIKE below 0", like(-1, 3, 3).about(0, 5), 0);
        due("EVEN below 0", like(-1, 3, 3).about(0, 3), 1);
        due("s below 0", like(-1, 3, 3).about(0, 4), -1);
        due("LIKE with 0", like(0, 3, 3).about(0, 5), 1);
        due("EVEN with 0", like(0, 3, 3).about(0, 3), 1);
        GrowingUrns y = like(1, 3, 3);
        y.add(0, 0, 1, 1);
        y.add(0, 0, 0, 0);
        due("the other's row alike", y.about(0, 3), 1);
        due("not LIKE", y.about(0, 5), 0);
        y.add(0, 0, 0, 2);
        y.add(0, 0, 1, -1);
        due("sums alike, off the middle -1", y.about(0, 5), 0);
    }

    private static void added() {
        GrowingUrns x = new GrowingUrns();
        x.urn(3);
        x.add(0, 1, 2, -4);
        due("ADDED 1, 2", x.added(0, 1, 2), -4);
        due("ADDED 2, 1", x.added(0, 2, 1), 0);
        due("COLOUR 3", x.added(0, 3, 0), -100);
        due("COLOUR 3", x.added(0, 0, 3), -100);
        due("COLOUR -1", x.added(0, -1, 0), -100);
        due("COLOUR -1", x.added(0, 0, -1), -100);
        due("URN 1", x.added(1, 0, 0), -100);
        due("URN -1", x.added(-1, 0, 0), -100);
    }

    private static void draw() {
        GrowingUrns x = new GrowingUrns();
        x.urn(2);
        fill(x, 0, 2, 199);
        x.add(0, 0, 0, -2);
        x.add(0, 0, 1, 1);
        x.add(0, 1, 0, -1);
        due("BALLS come to 0 and 200", x.draw(0, 0), 200);
        due("COLOUR 0", x.about(0, 6), 0);
        due("COLOUR 1", x.about(0, 7), 200);
        due("none of it", x.draw(0, 0), STUCK);
        due("below 0", x.draw(0, 1), STUCK);
        x.put(0, 0, 2);
        due("above 200", x.draw(0, 0), STUCK);
        due("acts", x.count(1), 7);
        due("DRAWS", x.about(0, 2), 1);
        due("DRAWS in all", x.count(2), 1);
        due("SEED", x.count(3), 1);
        due("COLOUR 2", x.draw(0, 2), BAD);
        due("COLOUR -1", x.draw(0, -1), BAD);
        due("URN 1", x.draw(1, 0), BAD);
        due("URN -1", x.draw(-1, 0), BAD);
        x.urn(2);
        fill(x, 1, 1, 1);
        x.is(1, 0, 0);
        due("of this URN alone", x.draw(1, 0), 2);
        due("not of the other", x.about(0, 2), 1);
        x.undo();
        due("taken back", x.about(1, 2), 0);
    }

    private static void seed() {
        GrowingUrns x = new GrowingUrns();
        due("greatest", x.seed(2147483646), 0);
        due("it is", x.count(3), 2147483646);
        due("least", x.seed(1), 0);
        due("it is", x.count(3), 1);
        due("0", x.seed(0), BAD);
        due("-1", x.seed(-1), BAD);
        due("LOW", x.seed(LOW), BAD);
        due("2147483647", x.seed(HIGH), BAD);
        due("nothing changed", x.count(3), 1);
        due("no act", x.count(1), 0);
    }

    private static void drawn() {
        GrowingUrns x = new GrowingUrns();
        x.urn(3);
        fill(x, 0, 1, 1, 1);
        due("SEED 48282, 3017 modulo 3", x.drawn(0), 12);
        due("SEED", x.count(3), 48282);
        x.seed(2147483646);
        x.drawn(0);
        due("-48271 and 11, round", x.count(3), 2147435387);
        due("URN 1", x.drawn(1), BAD);
        due("URN -1", x.drawn(-1), BAD);
        GrowingUrns y = new GrowingUrns();
        for (int u = 0; u < 8; u++) {
            y.urn(2);
            y.put(u, u % 2, 1);
            y.is(u, u % 2, u - 1);
        }
        due("down through eight", y.drawn(7), 110101010);
        due("DRAWS of all", y.count(2), 8);
        due("one act", y.undo(), 1);
        due("taken back from all", y.count(2), 0);
        due("with the SEED", y.count(3), 1);
        y.put(0, 0, 0);
        int acts = y.count(1);
        due("the last has no BALLS", y.drawn(7), STUCK);
        due("no SEED", y.count(3), 1);
        due("no DRAW", y.count(2), 0);
        due("no act", y.count(1), acts);
        y.put(0, 0, 200);
        y.add(0, 0, 0, 1);
        y.add(7, 1, 0, 1);
        due("the last would have above 200", y.drawn(7), STUCK);
        due("none came above", y.about(7, 1), 1);
        GrowingUrns t = new GrowingUrns();
        t.urn(2);
        t.urn(2);
        fill(t, 1, 1, 1);
        t.is(1, 0, 0);
        t.is(1, 1, 0);
        due("the one below has no BALLS", t.drawn(1), STUCK);
        due("none of it", t.shake(1, 5), 0);
        due("nothing changed", t.count(2), 0);
        GrowingUrns z = new GrowingUrns();
        z.urn(4);
        fill(z, 0, 0, 7, 0, 10);
        int[] seen = new int[4];
        long seed = 1;
        for (int i = 0; i < 60; i++) {
            seed = (seed * 48271 + 11) % 2147483647L;
            int want = seed / 16 % 17 < 7 ? 1 : 3;
            due("by the SEED", z.drawn(0), 10 + want);
            seen[want]++;
        }
        due("both come", seen[1] > 5 && seen[3] > 5 ? 1 : 0, 1);
    }

    private static void shake() {
        GrowingUrns x = like(-1, 2, 1);
        due("until STUCK", x.shake(0, 50), 3);
        due("one act", x.count(1), 5);
        due("DRAWS", x.about(0, 2), 3);
        int seed = x.count(3);
        due("none done", x.shake(0, 1), 0);
        due("no act", x.count(1), 5);
        due("no SEED", x.count(3), seed);
        x.undo();
        due("all of it taken back", x.about(0, 1), 3);
        due("with the SEED", x.count(3), 1);
        due("n 0", x.shake(0, 0), BAD);
        due("n 51", x.shake(0, 51), BAD);
        due("n LOW", x.shake(0, LOW), BAD);
        due("URN 1", x.shake(1, 1), BAD);
        due("URN -1", x.shake(-1, 1), BAD);
        GrowingUrns y = like(0, 5, 5);
        GrowingUrns z = like(0, 5, 5);
        due("50", y.shake(0, 50), 50);
        for (int i = 0; i < 50; i++) {
            z.drawn(0);
        }
        due("as 50 DRAWS by SEED", y.count(3), z.count(3));
        due("as 50 DRAWS by SEED", y.about(0, 2), 50);
    }

    private static void undo() {
        GrowingUrns x = new GrowingUrns();
        x.urn(2);
        due("none", x.undo(), NO);
        for (int n = 1; n <= 25; n++) {
            x.put(0, 0, n);
        }
        due("20 are kept", x.count(1), 20);
        for (int n = 24; n >= 5; n--) {
            due("one back", x.undo(), 1);
            due("as it was", x.about(0, 6), n);
        }
        due("no more", x.undo(), NO);
        due("as it was", x.about(0, 6), 5);
        x.seed(5);
        x.put(0, 0, 7);
        x.seed(9);
        due("with the SEED", x.undo(), 1);
        due("the SEED ahead of the act", x.count(3), 5);
        x.add(0, 1, 0, 4);
        x.urn(3);
        x.put(1, 2, 8);
        x.chance(0, 0, 0);
        x.undo();
        due("BALLS of URN 1", x.about(1, 8), 0);
        due("ADDED of URN 0 stays", x.added(0, 1, 0), 4);
        fraction("THE FRACTION stays", x, 1, 0, 1);
        x.undo();
        due("ADDED of URN 0", x.added(0, 1, 0), 0);
        due("both URNS stay", x.count(0), 2);
        x.sheet(0, 1, 2);
        x.lay(0, 0, 6);
        x.read(0, 0, 0, 0, 0);
        due("read() back", x.undo(), 1);
        due("BALLS", x.about(0, 6), 5);
        due("the SHEET stays", x.holds(0, 0, 6), 1);
    }

    private static int row(int... colours) {
        int row = 0;
        for (int i = colours.length - 1; i >= 0; i--) {
            row = row * 4 + colours[i];
        }
        return row;
    }

    private static void chance() {
        GrowingUrns x = like(1, 1, 2);
        due("0 1 1", x.chance(0, 3, row(0, 1, 1)), 0);
        fraction("1/3 2/4 3/5", x, 0, 1, 10);
        due("0 0 1", x.chance(0, 3, row(0, 0, 1)), 0);
        fraction("1/3 2/4 2/5", x, 0, 1, 15);
        due("of 1 alone, the rest is not looked at", x.chance(0, 1, row(1, 3)), 0);
        fraction("2/3", x, 0, 2, 3);
        due("no DRAW", x.chance(0, 0, HIGH), 0);
        fraction("1", x, 1, 0, 1);
        due("COLOUR 2", x.chance(0, 2, row(0, 2)), BAD);
        due("row -1", x.chance(0, 1, -1), BAD);
        due("row LOW, no DRAW", x.chance(0, 0, LOW), BAD);
        due("row -1, no DRAW", x.chance(0, 0, -1), BAD);
        due("n -1", x.chance(0, -1, 0), BAD);
        due("n 13", x.chance(0, 13, 0), BAD);
        due("URN 1", x.chance(1, 1, 0), BAD);
        due("URN -1", x.chance(-1, 1, 0), BAD);
        fraction("refused ones change nothing", x, 1, 0, 1);
        due("nothing is drawn", x.about(0, 1), 3);
        fill(x, 0, 0, 0);
        due("no BALLS", x.chance(0, 1, 0), NO);
        due("BAD ahead of NO", x.chance(0, 1, 2), BAD);
        due("no BALLS, no DRAW", x.chance(0, 0, 0), 0);
        fraction("1", x, 1, 0, 1);
        GrowingUrns y = like(-1, 1, 1);
        due("STUCK", y.chance(0, 2, row(0, 0)), 0);
        fraction("0", y, 0, 0, 1);
        due("then one is left", y.chance(0, 2, row(0, 1)), 0);
        fraction("1/2", y, 0, 1, 2);
        due("no BALLS any more", y.chance(0, 3, row(0, 1, 0)), 0);
        fraction("0", y, 0, 0, 1);
        GrowingUrns z = like(0, 1, 9);
        due("12 of a tenth", z.chance(0, 12, 0), 0);
        fraction("by a million millions", z, 0, 1, 1000000000000L);
        z = like(0, 1, 199);
        z.chance(0, 7, 0);
        fraction("200 to the 7", z, 0, 1, 12800000000000000L);
        z.chance(0, 1, 1);
        due("200 to the 8 is above the limit", z.chance(0, 8, 0), BIG);
        fraction("refused, so it stays", z, 0, 199, 200);
        due("199 by 200 to the 8, too", z.chance(0, 8, 21845), BIG);
        z = like(0, 100, 100);
        due("lowest terms are asked for", z.chance(0, 12, 0), 0);
        fraction("2 to the 12", z, 0, 1, 4096);
        z = like(0, 1, 9, 90);
        due("100 to the 9 is at the limit", z.chance(0, 9, 0), 0);
        fraction("100 to the 9", z, 0, 1, 1000000000000000000L);
        due("100 to the 9 and 10", z.chance(0, 10, row(0, 0, 0, 0, 0, 0, 0, 0, 0, 2)), BIG);
        z = like(0, 1, 199);
        z.add(0, 1, 0, 1);
        z.add(0, 1, 1, -9);
        z.put(0, 1, 199);
        due("not EVEN", z.chance(0, 2, row(1, 0)), 0);
        fraction("199/200 2/192", z, 0, 199, 19200);
        GrowingUrns b = like(0, 1, 199);
        b.add(0, 0, 1, 1);
        b.put(0, 1, 193);
        due("STUCK by the 8th DRAW: BIG is not asked behind it", b.chance(0, 9, 0), 0);
        fraction("0", b, 0, 0, 1);
    }

    private static void times() {
        GrowingUrns x = like(1, 1, 1);
        for (int k = 0; k <= 4; k++) {
            due("alike", x.times(0, 4, 1, k), 0);
            fraction("1/5", x, 0, 1, 5);
        }
        due("5 of 4", x.times(0, 4, 1, 5), 0);
        fraction("0", x, 0, 0, 1);
        due("no DRAW", x.times(0, 0, 1, 0), 0);
        fraction("1", x, 1, 0, 1);
        due("k -1", x.times(0, 4, 1, -1), BAD);
        due("k 13", x.times(0, 4, 1, 13), BAD);
        due("n 13", x.times(0, 13, 1, 0), BAD);
        due("n -1", x.times(0, -1, 1, 0), BAD);
        due("COLOUR 2", x.times(0, 1, 2, 0), BAD);
        due("COLOUR -1", x.times(0, 1, -1, 0), BAD);
        due("URN 1", x.times(1, 1, 0, 0), BAD);
        due("URN -1", x.times(-1, 1, 0, 0), BAD);
        fraction("it stays", x, 1, 0, 1);
        x.add(0, 0, 1, 1);
        due("not EVEN", x.times(0, 1, 0, 0), NO);
        due("not EVEN, no DRAW", x.times(0, 0, 0, 0), NO);
        due("BAD ahead of NO", x.times(0, 1, 2, 0), BAD);
        GrowingUrns y = like(0, 0, 0);
        due("no BALLS", y.times(0, 0, 0, 0), NO);
        GrowingUrns z = like(0, 100, 100);
        due("200 to the 6", z.times(0, 6, 0, 6), 0);
        fraction("1/64", z, 0, 1, 64);
        due("200 to the 7", z.times(0, 7, 0, 0), BIG);
        fraction("it stays", z, 0, 1, 64);
        due("k 12 of 6", z.times(0, 6, 0, 12), 0);
        fraction("0", z, 0, 0, 1);
        GrowingUrns e = like(-1, 2, 1);
        due("the last BALL", e.times(0, 3, 0, 2), 0);
        fraction("1", e, 1, 0, 1);
        for (int k = 0; k <= 4; k++) {
            due("no BALLS for the 4th DRAW", e.times(0, 4, 0, k), 0);
            fraction("0", e, 0, 0, 1);
        }
        GrowingUrns s = like(-2, 2, 1);
        due("STUCK by 1 is no row of a DRAW", s.times(0, 1, 0, 0), 0);
        fraction("0", s, 0, 0, 1);
        due("0 goes", s.times(0, 1, 0, 1), 0);
        fraction("2/3", s, 0, 2, 3);
        due("STUCK by 1: 1 was not drawn, 0 was", s.times(0, 1, 1, 0), 0);
        fraction("2/3", s, 0, 2, 3);
        due("0, then STUCK by 1", s.times(0, 2, 0, 1), 0);
        fraction("0", s, 0, 0, 1);
    }

    private static void left() {
        GrowingUrns x = like(1, 1, 1);
        for (int k = 1; k <= 5; k++) {
            due("alike", x.left(0, 4, 0, k), 0);
            fraction("1/5", x, 0, 1, 5);
        }
        due("6 can not be", x.left(0, 4, 0, 6), 0);
        fraction("0", x, 0, 0, 1);
        due("no DRAW", x.left(0, 0, 0, 1), 0);
        fraction("1", x, 1, 0, 1);
        due("k 400", x.left(0, 4, 0, 400), 0);
        fraction("0", x, 0, 0, 1);
        due("k 201", x.left(0, 4, 0, 201), 0);
        due("k 401", x.left(0, 4, 0, 401), BAD);
        due("k -1", x.left(0, 4, 0, -1), BAD);
        due("n 13", x.left(0, 13, 0, 1), BAD);
        due("n -1", x.left(0, -1, 0, 1), BAD);
        due("COLOUR 2", x.left(0, 1, 2, 1), BAD);
        due("URN 1", x.left(1, 1, 0, 1), BAD);
        GrowingUrns y = like(1, 199, 1);
        due("up to 200", y.left(0, 1, 0, 200), 0);
        fraction("199/200", y, 0, 199, 200);
        y.left(0, 2, 0, 200);
        fraction("199/200 1/201 twice; the third way is STUCK", y, 0, 199, 20100);
        y.add(0, 0, 1, 1);
        due("not EVEN", y.left(0, 1, 0, 1), NO);
        due("no BALLS", like(0, 0, 0).left(0, 1, 0, 0), NO);
        due("BIG", like(0, 100, 100).left(0, 7, 0, 100), BIG);
        due("BIG, k 400", like(0, 100, 100).left(0, 7, 0, 400), BIG);
    }

    private static void stuck() {
        GrowingUrns x = like(-1, 2, 1);
        due("3 DRAWS", x.stuck(0, 3), 0);
        fraction("0", x, 0, 0, 1);
        due("4 DRAWS", x.stuck(0, 4), 0);
        fraction("no BALLS any more", x, 1, 0, 1);
        due("12 DRAWS", x.stuck(0, 12), 0);
        fraction("no BALLS any more", x, 1, 0, 1);
        due("no DRAW", x.stuck(0, 0), 0);
        fraction("0", x, 0, 0, 1);
        due("n 13", x.stuck(0, 13), BAD);
        due("n -1", x.stuck(0, -1), BAD);
        due("URN 1", x.stuck(1, 1), BAD);
        due("URN -1", x.stuck(-1, 1), BAD);
        GrowingUrns y = like(1, 199, 1);
        due("1 DRAW", y.stuck(0, 1), 0);
        fraction("0", y, 0, 0, 1);
        due("2 DRAWS", y.stuck(0, 2), 0);
        fraction("199/200 200/201", y, 0, 199, 201);
        due("3 DRAWS", y.stuck(0, 3), 0);
        fraction("all but 1 1 1, 0 1 1, 1 0 1, 1 1 0: 1200 by 200 201 202", y, 0, 6766, 6767);
        y.add(0, 0, 1, 1);
        due("not EVEN", y.stuck(0, 1), NO);
        due("no BALLS", like(0, 0, 0).stuck(0, 1), NO);
        due("200 to the 7", like(0, 100, 100).stuck(0, 7), BIG);
        GrowingUrns z = like(0, 20, 80);
        due("100 to the 8 is at the limit", z.stuck(0, 8), 0);
        due("100 to the 9", z.stuck(0, 9), BIG);
        GrowingUrns w = like(-9, 9, 1);
        due("as far as above 0", w.stuck(0, 12), 0);
        fraction("1", w, 1, 0, 1);
    }

    private static void mean() {
        GrowingUrns x = like(1, 1, 2);
        due("1 DRAW", x.mean(0, 1, 0, 1), 0);
        fraction("2/3 and 1 2/3 ..", x, 1, 1, 3);
        due("squares", x.mean(0, 1, 0, 2), 0);
        fraction("4 1/3 and 1 2/3", x, 2, 0, 1);
        due("third powers", x.mean(0, 1, 0, 3), 0);
        fraction("8 1/3 and 1 2/3", x, 3, 1, 3);
        due("no DRAW", x.mean(0, 0, 1, 3), 0);
        fraction("8", x, 8, 0, 1);
        due("m 0", x.mean(0, 1, 0, 0), BAD);
        due("m 4", x.mean(0, 1, 0, 4), BAD);
        due("n 13", x.mean(0, 13, 0, 1), BAD);
        due("n -1", x.mean(0, -1, 0, 1), BAD);
        due("COLOUR 2", x.mean(0, 1, 2, 1), BAD);
        due("URN 1", x.mean(1, 1, 0, 1), BAD);
        x.add(0, 0, 1, 1);
        due("not EVEN", x.mean(0, 1, 0, 1), NO);
        due("no BALLS", like(0, 0, 0).mean(0, 1, 0, 1), NO);
        due("BIG", like(0, 100, 100).mean(0, 7, 0, 1), BIG);
        GrowingUrns y = like(1, 200, 50);
        y.mean(0, 1, 1, 1);
        fraction("51 by 50/250; STUCK counts 0", y, 10, 1, 5);
        GrowingUrns z = like(0, 200, 15);
        due("great weights", z.mean(0, 6, 0, 3), 0);
        fraction("8000000", z, 8000000, 0, 1);
    }

    private static void told() {
        GrowingUrns x = like(1, 1, 1);
        due("1 told by 2", x.told(0, 1, 0, 2, 0), 0);
        fraction("2/3", x, 0, 2, 3);
        due("11 told by 12", x.told(0, 11, 1, 12, 0), 0);
        fraction("1/3", x, 0, 1, 3);
        due("i 0", x.told(0, 0, 0, 1, 0), BAD);
        due("j 13", x.told(0, 1, 0, 13, 0), BAD);
        due("j as i", x.told(0, 2, 0, 2, 0), BAD);
        due("j below i", x.told(0, 3, 0, 2, 0), BAD);
        due("LOW", x.told(0, LOW, 0, 2, 0), BAD);
        due("HIGH", x.told(0, 1, 0, HIGH, 0), BAD);
        due("COLOUR 2", x.told(0, 1, 2, 2, 0), BAD);
        due("COLOUR 2", x.told(0, 1, 0, 2, 2), BAD);
        due("COLOUR -1", x.told(0, 1, -1, 2, 0), BAD);
        due("COLOUR -1", x.told(0, 1, 0, 2, -1), BAD);
        due("URN 1", x.told(1, 1, 0, 2, 0), BAD);
        fraction("it stays", x, 0, 1, 3);
        GrowingUrns y = like(-1, 2, 1);
        due("2 told by 3", y.told(0, 2, 1, 3, 0), 0);
        fraction("1/2", y, 0, 1, 2);
        due("1 is 1, told that 3 is 1", y.told(0, 1, 1, 3, 1), 0);
        fraction("0", y, 0, 0, 1);
        due("a 4th DRAW can not be", y.told(0, 1, 0, 4, 0), NO);
        GrowingUrns z = like(0, 200, 0, 200, 200);
        due("3 that can not be, ahead of BIG", z.told(0, 1, 0, 12, 1), NO);
        due("600 to the 12", z.told(0, 1, 0, 12, 0), BIG);
        due("600 to the 5", z.told(0, 1, 0, 5, 0), 0);
        fraction("1/3", z, 0, 1, 3);
        x.add(0, 0, 1, 1);
        due("not EVEN", x.told(0, 1, 0, 2, 0), NO);
        due("no BALLS", like(0, 0, 0).told(0, 1, 0, 2, 0), NO);
        GrowingUrns one = like(1, 1, 0);
        due("one BALL", one.told(0, 1, 0, 2, 0), 0);
        fraction("1", one, 1, 0, 1);
        GrowingUrns s = like(1, 199, 100);
        due("STUCK rows do not count", s.told(0, 1, 0, 2, 0), 0);
        fraction("only 1 0 is left", s, 0, 0, 1);
    }

    private static void share() {
        GrowingUrns x = like(2, 1, 2);
        due("m 1", x.share(0, 0, 1), 0);
        fraction("1/3", x, 0, 1, 3);
        due("m 2", x.share(0, 0, 2), 0);
        fraction("1/3 3/5", x, 0, 1, 5);
        due("m 3", x.share(0, 0, 3), 0);
        fraction("1/3 3/5 5/7", x, 0, 1, 7);
        due("m 4", x.share(0, 1, 4), 0);
        fraction("2/3 4/5 6/7 8/9", x, 0, 128, 315);
        due("m 0", x.share(0, 0, 0), BAD);
        due("m 5", x.share(0, 0, 5), BAD);
        due("COLOUR 2", x.share(0, 2, 1), BAD);
        due("COLOUR -1", x.share(0, -1, 1), BAD);
        due("URN 1", x.share(1, 0, 1), BAD);
        fraction("it stays", x, 0, 128, 315);
        x.put(0, 0, 0);
        due("none of it", x.share(0, 0, 2), 0);
        fraction("0", x, 0, 0, 1);
        due("all of it", x.share(0, 1, 2), 0);
        fraction("1", x, 1, 0, 1);
        x.put(0, 1, 0);
        due("no BALLS", x.share(0, 0, 1), NO);
        due("s 0", like(0, 1, 1).share(0, 0, 1), NO);
        due("s -1", like(-1, 1, 1).share(0, 0, 1), NO);
        GrowingUrns y = like(1, 1, 2);
        due("s 1", y.share(0, 0, 2), 0);
        fraction("1/3 2/4", y, 0, 1, 6);
        y.add(0, 0, 1, 1);
        y.add(0, 0, 0, 0);
        due("EVEN, not LIKE", y.share(0, 0, 1), NO);
        GrowingUrns z = like(9, 200, 200, 200, 200);
        due("greatest", z.share(0, 3, 4), 0);
        fraction("200 209 218 227 by 800 809 818 827", z, 0, 5171287, 1094554348L);
    }

    private static void free() {
        GrowingUrns x = like(1, 1, 2, 3);
        x.chance(0, 1, 1);
        for (int n = 1; n <= 5; n++) {
            due("LIKE, n " + n, x.free(0, n), 1);
        }
        fraction("THE FRACTION stays", x, 0, 1, 3);
        fill(x, 0, 3, 1, 1);
        due("of other BALLS", x.free(0, 5), 1);
        due("n 0", x.free(0, 0), BAD);
        due("n 6", x.free(0, 6), BAD);
        due("n LOW", x.free(0, LOW), BAD);
        due("URN 1", x.free(1, 1), BAD);
        due("URN -1", x.free(-1, 1), BAD);
        x.add(0, 0, 1, 1);
        due("n 1", x.free(0, 1), 1);
        due("n 2", x.free(0, 2), 0);
        fill(x, 0, 0, 0, 0);
        due("no BALLS", x.free(0, 1), NO);
        due("BAD ahead of NO", x.free(0, 6), BAD);
        due("taken off", like(-1, 2, 2).free(0, 5), 1);
        GrowingUrns y = like(0, 1, 1);
        y.add(0, 0, 0, -1);
        due("0 1 1/2, 1 0 1/4", y.free(0, 2), 0);
        GrowingUrns z = like(-9, 9, 9);
        due("STUCK in one way, 0 in all", z.free(0, 3), 1);
        GrowingUrns w = like(0, 200, 1);
        w.add(0, 0, 0, 1);
        w.add(0, 1, 0, -1);
        due("0 1 is STUCK, 1 0 is not", w.free(0, 2), 0);
    }

    private static void part() {
        GrowingUrns x = like(1, 1, 2);
        x.mean(0, 1, 0, 1);
        due("WHOLE", x.part(0), 1);
        due("above", x.part(1), 1);
        due("below", x.part(2), 3);
        due("3", x.part(3), BAD);
        due("-1", x.part(-1), BAD);
        due("LOW", x.part(LOW), BAD);
        due("HIGH", x.part(HIGH), BAD);
    }

    private static void count() {
        GrowingUrns x = like(1, 1, 2);
        x.urn(2);
        fill(x, 1, 1, 1);
        x.is(1, 0, 0);
        x.is(1, 1, 0);
        due("URNS", x.count(0), 2);
        due("acts", x.count(1), 8);
        x.drawn(1);
        due("DRAWS of both", x.count(2), 2);
        x.shake(1, 4);
        due("DRAWS of both", x.count(2), 10);
        due("acts", x.count(1), 10);
        x.undo();
        due("DRAWS taken back", x.count(2), 2);
        due("acts", x.count(1), 9);
        x.seed(1234);
        due("SEED", x.count(3), 1234);
        due("4", x.count(4), BAD);
        due("-1", x.count(-1), BAD);
        due("LOW", x.count(LOW), BAD);
    }

    private static void ask(int number) {
        promise = number;
        switch (number) {
            case 1: newObject(); break;
            case 2: sheet(); break;
            case 3: lay(); break;
            case 4: copy(); break;
            case 5: holds(); break;
            case 6: read(); break;
            case 7: urn(); break;
            case 8: put(); break;
            case 9: add(); break;
            case 10: is(); break;
            case 11: about(); break;
            case 12: added(); break;
            case 13: draw(); break;
            case 14: seed(); break;
            case 15: drawn(); break;
            case 16: shake(); break;
            case 17: undo(); break;
            case 18: chance(); break;
            case 19: times(); break;
            case 20: left(); break;
            case 21: stuck(); break;
            case 22: mean(); break;
            case 23: told(); break;
            case 24: share(); break;
            case 25: free(); break;
            case 26: part(); break;
            default: count();
        }
    }

    public static void main(String[] args) {
        for (int number = 1; number <= 27; number++) {
            int before = asked;
            try {
                ask(number);
            } catch (RuntimeException thrown) {
                wrong++;
                System.out.println("promise " + number + " threw behind " + (asked - before) + " answers: " + thrown);
            }
        }
        System.out.println(wrong == 0 ? asked + " answers are as due" : wrong + " answers are not as due");
        if (wrong != 0) {
            System.exit(1);
        }
    }
}
