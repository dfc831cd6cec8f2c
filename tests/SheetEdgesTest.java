/** Promises 1 to 6: each sentence that names an edge, with the last number taken and the first refused. */
public final class SheetEdgesTest {
    private static final int BAD = Edges.BAD, NULL = Edges.NULL, INDEX = Edges.INDEX, SIZE = Edges.SIZE;
    private static final int STORE = Edges.STORE, OUT = Edges.OUT, LOW = Edges.LOW, HIGH = Edges.HIGH;

    /** SHEETS: 0 of 3 bytes, 1 of 4 ints, 2 of 2 longs, 3 of no ints, 4 MISSING, 5 of 5 longs. */
    private static GrowingUrns plain() {
        return Edges.like(1, 3, 2);
    }

    private static void placesAre(String what, GrowingUrns x, int r, long... places) {
        for (int i = 0; i < places.length; i++) {
            Edges.due(what + ": place " + i + " holds " + places[i], x.holds(r, i, places[i]), 1);
        }
        Edges.due(what + ": no place more", x.holds(r, places.length, 0), INDEX);
    }

    // ---- promise 1

    private static void nothingAtFirst() {
        GrowingUrns x = new GrowingUrns();
        Edges.due("URNS", x.count(0), 0);
        for (int what = 0; what < 10; what++) {
            Edges.due("about(0, " + what + ")", x.about(0, what), Edges.BAD_ABOUT);
        }
        Edges.due("acts", x.count(1), 0);
        Edges.due("undo()", x.undo(), Edges.NO);
        Edges.due("DRAWS", x.count(2), 0);
        Edges.due("the SEED", x.count(3), 1);
        Edges.fractionIs("THE FRACTION", x, 0, 0, 1);
    }

    private static void missingAtFirst() {
        GrowingUrns x = new GrowingUrns();
        x.urn(2);
        for (int r = 0; r < 6; r++) {
            Edges.due("holds of SHEET " + r, x.holds(r, 0, 0), NULL);
            Edges.due("lay on SHEET " + r, x.lay(r, 0, 0), NULL);
            Edges.due("copy of SHEET " + r, x.copy(r, 0, r, 0, 0), NULL);
            Edges.due("read of SHEET " + r, x.read(0, 0, 0, r, 0), NULL);
        }
    }

    private static void othersAreNotTouched() {
        GrowingUrns x = new GrowingUrns();
        GrowingUrns y = plain();
        y.shake(0, 3);
        Edges.due("URNS", x.count(0), 0);
        Edges.due("acts", x.count(1), 0);
        Edges.due("DRAWS", x.count(2), 0);
        Edges.due("the SEED", x.count(3), 1);
        Edges.due("SHEET 0", x.holds(0, 0, 1), NULL);
        Edges.fractionIs("THE FRACTION", x, 0, 0, 1);
    }

    // ---- promise 2

    private static void sheetNumbers() {
        Edges.range("SHEET of sheet", SheetEdgesTest::plain, 0, 5, BAD, (x, r) -> x.sheet(r, 1, 2));
        Edges.beside("SHEET of sheet to MISSING", SheetEdgesTest::plain, 0, 5, BAD, (x, r) -> x.sheet(r, -1, 0));
        Edges.range("SHEET of lay", SheetEdgesTest::plain, 0, 5, BAD, (x, r) -> x.lay(r, 0, 7));
        Edges.range("SHEET that copy copies", SheetEdgesTest::plain, 0, 5, BAD,
            (x, r) -> x.copy(r, 0, r == 0 ? 0 : 2, 0, 1));
        Edges.range("SHEET that copy copies to", SheetEdgesTest::plain, 0, 5, BAD,
            (x, t) -> x.copy(t == 0 ? 0 : 2, 0, t, 0, 1));
        Edges.range("SHEET of holds", SheetEdgesTest::plain, 0, 5, BAD, (x, r) -> x.holds(r, 0, 99));
        Edges.range("SHEET of read", SheetEdgesTest::plain, 0, 5, BAD, (x, r) -> x.read(0, 0, 0, r, 0));
    }

    private static void sorts() {
        Edges.range("sort", SheetEdgesTest::plain, -1, 2, BAD, (x, kind) -> x.sheet(1, kind, 2));
        long v = 1099511627776L + 3000000000L;
        long[] kept = {(byte) v, (int) v, v};
        for (int kind = 0; kind < 3; kind++) {
            GrowingUrns x = plain();
            Edges.due("sort " + kind, x.sheet(4, kind, 1), 0);
            x.lay(4, 0, v);
            placesAre("sort " + kind, x, 4, kept[kind]);
        }
    }

    private static void sizes() {
        for (int kind = 0; kind < 3; kind++) {
            int sort = kind;
            GrowingUrns x = plain();
            Edges.due("no place", x.sheet(4, kind, 0), 0);
            Edges.due("place 0 of none", x.holds(4, 0, 0), INDEX);
            Edges.due("one place", x.sheet(4, kind, 1), 0);
            placesAre("one place", x, 4, 0);
            Edges.due("16 places", x.sheet(4, kind, 16), 0);
            placesAre("16 places", x, 4, 0, 0, 0, 0, 0, 0, 0, 0, 0, 0, 0, 0, 0, 0, 0, 0);
            Edges.due("the last of 16", x.lay(4, 15, 9), 0);
            Edges.due("holds of the last of 16", x.holds(4, 15, 9), 1);
            Edges.refused("n 17", SheetEdgesTest::plain, y -> y.sheet(1, sort, 17), BAD);
            Edges.refused("n HIGH", SheetEdgesTest::plain, y -> y.sheet(1, sort, HIGH), BAD);
            Edges.refused("n -1", SheetEdgesTest::plain, y -> y.sheet(1, sort, -1), SIZE);
            Edges.refused("n LOW", SheetEdgesTest::plain, y -> y.sheet(1, sort, LOW), SIZE);
        }
    }

    private static void allZero() {
        GrowingUrns x = plain();
        x.sheet(1, 1, 4);
        placesAre("of the same sort and n", x, 1, 0, 0, 0, 0);
        x.sheet(0, 2, 5);
        placesAre("longer, of another sort", x, 0, 0, 0, 0, 0, 0);
        x.lay(0, 4, 8);
        x.sheet(0, 2, 1);
        x.sheet(0, 2, 5);
        placesAre("shorter and longer again", x, 0, 0, 0, 0, 0, 0);
        x.lay(0, 4, 8);
        x.sheet(0, -1, 0);
        x.sheet(0, 2, 5);
        placesAre("MISSING and there again", x, 0, 0, 0, 0, 0, 0);
        placesAre("another SHEET", x, 2, Edges.laid(2, 0), Edges.laid(2, 1));
    }

    private static void missingAgain() {
        for (int n : new int[] {0, 16, 17, -1, LOW, HIGH}) {
            GrowingUrns x = plain();
            Edges.due("MISSING, n " + n, x.sheet(1, -1, n), 0);
            Edges.due("it is, n " + n, x.holds(1, 0, 0), NULL);
            Edges.due("SHEET 0 is not, n " + n, x.holds(0, 0, 1), 1);
            Edges.due("SHEET 2 is not, n " + n, x.holds(2, 0, 21), 1);
        }
    }

    private static void sheetFirst() {
        Edges.refused("SHEET 6, n -1", SheetEdgesTest::plain, x -> x.sheet(6, 0, -1), BAD);
        Edges.refused("SHEET -1, n -1", SheetEdgesTest::plain, x -> x.sheet(-1, 0, -1), BAD);
        Edges.refused("sort 3, n -1", SheetEdgesTest::plain, x -> x.sheet(0, 3, -1), BAD);
        Edges.refused("sort -2, n -1", SheetEdgesTest::plain, x -> x.sheet(0, -2, -1), BAD);
    }

    // ---- promise 3

    private static void layPlaces() {
        GrowingUrns x = plain();
        Edges.due("the first place", x.lay(1, 0, 70), 0);
        placesAre("the first place", x, 1, 70, 12, 13, 14);
        Edges.due("the last place", x.lay(1, 3, 80), 0);
        placesAre("the last place", x, 1, 70, 12, 13, 80);
        Edges.beside("place of lay", SheetEdgesTest::plain, 0, 3, INDEX, (y, i) -> y.lay(1, i, 70));
        Edges.refused("place 0 of none", SheetEdgesTest::plain, y -> y.lay(3, 0, 70), INDEX);
        Edges.refused("the place behind 3 bytes", SheetEdgesTest::plain, y -> y.lay(0, 3, 70), INDEX);
        Edges.refused("the place behind 2 longs", SheetEdgesTest::plain, y -> y.lay(2, 2, 70), INDEX);
        GrowingUrns shorter = plain();
        shorter.sheet(5, 2, 4);
        Edges.due("a place that was there", shorter.lay(5, 4, 1), INDEX);
    }

    private static void laidIs(String what, int kind, long v, long kept) {
        GrowingUrns x = plain();
        x.sheet(4, kind, 3);
        Edges.due(what, x.lay(4, 1, v), 0);
        placesAre(what, x, 4, 0, kept, 0);
    }

    private static void cut() {
        laidIs("the greatest byte", 0, 127, 127);
        laidIs("above it", 0, 128, -128);
        laidIs("the least byte", 0, -128, -128);
        laidIs("below it", 0, -129, 127);
        laidIs("a byte all set", 0, 255, -1);
        laidIs("a byte once round", 0, 256, 0);
        laidIs("a byte of a long", 0, 4294967301L, 5);
        laidIs("a byte of the greatest long", 0, Long.MAX_VALUE, -1);
        laidIs("the greatest int", 1, 2147483647L, 2147483647L);
        laidIs("above it", 1, 2147483648L, -2147483648L);
        laidIs("the least int", 1, -2147483648L, -2147483648L);
        laidIs("below it", 1, -2147483649L, 2147483647L);
        laidIs("an int once round", 1, 4294967296L, 0);
        laidIs("an int as no byte", 1, 128, 128);
        laidIs("the greatest long", 2, Long.MAX_VALUE, Long.MAX_VALUE);
        laidIs("the least long", 2, Long.MIN_VALUE, Long.MIN_VALUE);
        laidIs("a long as no int", 2, 2147483648L, 2147483648L);
    }

    private static void layMissing() {
        Edges.refused("lay on SHEET 4", SheetEdgesTest::plain, x -> x.lay(4, 0, 7), NULL);
        GrowingUrns x = plain();
        x.sheet(1, -1, 4);
        Edges.due("lay on one that was there", x.lay(1, 0, 7), NULL);
        x.sheet(1, 1, 4);
        Edges.due("there again", x.lay(1, 0, 7), 0);
    }

    private static void layFirst() {
        Edges.refused("SHEET 6, place -1", SheetEdgesTest::plain, x -> x.lay(6, -1, 7), BAD);
        Edges.refused("SHEET -1, place HIGH", SheetEdgesTest::plain, x -> x.lay(-1, HIGH, 7), BAD);
        Edges.refused("MISSING, place -1", SheetEdgesTest::plain, x -> x.lay(4, -1, 7), NULL);
        Edges.refused("MISSING, place 16", SheetEdgesTest::plain, x -> x.lay(4, 16, 7), NULL);
    }

    // ---- promise 4

    private static void copyPlaces() {
        GrowingUrns x = plain();
        Edges.due("all to the end", x.copy(2, 0, 5, 3, 2), 0);
        placesAre("all to the end", x, 5, 51, 52, 53, 21, 22);
        Edges.due("the end to the beginning", x.copy(5, 3, 5, 0, 2), 0);
        placesAre("the end to the beginning", x, 5, 21, 22, 53, 21, 22);
        Edges.due("one in the middle", x.copy(5, 2, 2, 1, 1), 0);
        placesAre("one in the middle", x, 2, 21, 53);
        Edges.due("all of itself", x.copy(5, 0, 5, 0, 5), 0);
        placesAre("all of itself", x, 5, 21, 22, 53, 21, 22);
    }

    private static void copyOfLikeSorts() {
        long[] v = {-128, Integer.MIN_VALUE, Long.MIN_VALUE};
        for (int kind = 0; kind < 3; kind++) {
            GrowingUrns x = plain();
            x.sheet(3, kind, 3);
            x.sheet(4, kind, 2);
            x.lay(3, 2, v[kind]);
            Edges.due("sort " + kind, x.copy(3, 1, 4, 0, 2), 0);
            placesAre("sort " + kind, x, 4, 0, v[kind]);
            placesAre("the copied one", x, 3, 0, 0, v[kind]);
        }
    }

    private static void copyNone() {
        GrowingUrns x = plain();
        Edges.due("none behind the last of both", x.copy(2, 2, 5, 5, 0), 0);
        Edges.due("none of none", x.copy(3, 0, 3, 0, 0), 0);
        placesAre("none came", x, 5, 51, 52, 53, 54, 55);
        Edges.refused("none, i beyond", SheetEdgesTest::plain, y -> y.copy(2, 3, 5, 0, 0), INDEX);
        Edges.refused("none, j beyond", SheetEdgesTest::plain, y -> y.copy(2, 0, 5, 6, 0), INDEX);
        Edges.refused("none, i -1", SheetEdgesTest::plain, y -> y.copy(2, -1, 5, 0, 0), INDEX);
        Edges.refused("none, j -1", SheetEdgesTest::plain, y -> y.copy(2, 0, 5, -1, 0), INDEX);
    }

    private static void copyAsAhead() {
        GrowingUrns up = plain();
        Edges.due("one up in itself", up.copy(5, 0, 5, 1, 4), 0);
        placesAre("one up in itself", up, 5, 51, 51, 52, 53, 54);
        GrowingUrns down = plain();
        Edges.due("one down in itself", down.copy(5, 1, 5, 0, 4), 0);
        placesAre("one down in itself", down, 5, 52, 53, 54, 55, 55);
        GrowingUrns far = plain();
        Edges.due("two up in itself", far.copy(5, 0, 5, 2, 3), 0);
        placesAre("two up in itself", far, 5, 51, 52, 51, 52, 53);
    }

    private static void copyBeyond() {
        Edges.refused("n -1", SheetEdgesTest::plain, x -> x.copy(2, 1, 5, 1, -1), INDEX);
        Edges.refused("i -1", SheetEdgesTest::plain, x -> x.copy(2, -1, 5, 0, 1), INDEX);
        Edges.refused("j -1", SheetEdgesTest::plain, x -> x.copy(2, 0, 5, -1, 1), INDEX);
        Edges.refused("one more than there is", SheetEdgesTest::plain, x -> x.copy(2, 0, 5, 0, 3), INDEX);
        Edges.refused("one place too far", SheetEdgesTest::plain, x -> x.copy(2, 1, 5, 0, 2), INDEX);
        Edges.refused("behind the last", SheetEdgesTest::plain, x -> x.copy(2, 2, 5, 0, 1), INDEX);
        Edges.refused("one more than fits", SheetEdgesTest::plain, x -> x.copy(5, 0, 2, 0, 3), INDEX);
        Edges.refused("one place too far there", SheetEdgesTest::plain, x -> x.copy(5, 0, 2, 1, 2), INDEX);
        Edges.refused("behind the last there", SheetEdgesTest::plain, x -> x.copy(5, 0, 2, 2, 1), INDEX);
        Edges.refused("one of none", SheetEdgesTest::plain, x -> x.copy(3, 0, 1, 0, 1), INDEX);
        Edges.refused("one to none", SheetEdgesTest::plain, x -> x.copy(1, 0, 3, 0, 1), INDEX);
        for (int far : new int[] {LOW, HIGH}) {
            Edges.refused("n " + far, SheetEdgesTest::plain, x -> x.copy(2, 1, 5, 1, far), INDEX);
            Edges.refused("i " + far, SheetEdgesTest::plain, x -> x.copy(2, far, 5, 1, 1), INDEX);
            Edges.refused("j " + far, SheetEdgesTest::plain, x -> x.copy(2, 1, 5, far, 1), INDEX);
            Edges.refused("all " + far, SheetEdgesTest::plain, x -> x.copy(2, far, 5, far, far), INDEX);
        }
        Edges.refused("i and n come round", SheetEdgesTest::plain, x -> x.copy(2, HIGH, 5, 0, HIGH), INDEX);
        Edges.refused("j and n come round", SheetEdgesTest::plain, x -> x.copy(2, 0, 5, HIGH, HIGH), INDEX);
    }

    private static void copyUnlike() {
        Edges.refused("bytes to ints", SheetEdgesTest::plain, x -> x.copy(0, 0, 1, 0, 1), STORE);
        Edges.refused("bytes to longs", SheetEdgesTest::plain, x -> x.copy(0, 0, 2, 0, 1), STORE);
        Edges.refused("ints to bytes", SheetEdgesTest::plain, x -> x.copy(1, 0, 0, 0, 1), STORE);
        Edges.refused("ints to longs", SheetEdgesTest::plain, x -> x.copy(1, 0, 2, 0, 1), STORE);
        Edges.refused("longs to bytes", SheetEdgesTest::plain, x -> x.copy(2, 0, 0, 0, 1), STORE);
        Edges.refused("longs to ints", SheetEdgesTest::plain, x -> x.copy(2, 0, 1, 0, 1), STORE);
        Edges.refused("none of longs to ints", SheetEdgesTest::plain, x -> x.copy(2, 0, 1, 0, 0), STORE);
    }

    private static void copyMissing() {
        Edges.refused("of one MISSING", SheetEdgesTest::plain, x -> x.copy(4, 0, 1, 0, 1), NULL);
        Edges.refused("to one MISSING", SheetEdgesTest::plain, x -> x.copy(1, 0, 4, 0, 1), NULL);
        Edges.refused("of and to one MISSING", SheetEdgesTest::plain, x -> x.copy(4, 0, 4, 0, 0), NULL);
    }

    private static void copyFirst() {
        Edges.refused("SHEET 6, other MISSING", SheetEdgesTest::plain, x -> x.copy(4, 0, 6, 0, 1), BAD);
        Edges.refused("SHEET -1, other MISSING", SheetEdgesTest::plain, x -> x.copy(-1, 0, 4, 0, 1), BAD);
        Edges.refused("SHEET 6, n -1", SheetEdgesTest::plain, x -> x.copy(6, 0, 1, 0, -1), BAD);
        Edges.refused("to SHEET 6, i -1", SheetEdgesTest::plain, x -> x.copy(1, -1, 6, 0, 1), BAD);
        Edges.refused("of one MISSING, n -1", SheetEdgesTest::plain, x -> x.copy(4, 0, 1, 0, -1), NULL);
        Edges.refused("to one MISSING, j -1", SheetEdgesTest::plain, x -> x.copy(1, 0, 4, -1, 1), NULL);
        Edges.refused("bytes to one MISSING", SheetEdgesTest::plain, x -> x.copy(0, 0, 4, 0, 1), NULL);
        Edges.refused("one MISSING to longs", SheetEdgesTest::plain, x -> x.copy(4, 0, 2, 0, 1), NULL);
        Edges.refused("unlike, n -1", SheetEdgesTest::plain, x -> x.copy(0, 0, 1, 0, -1), STORE);
        Edges.refused("unlike, i beyond", SheetEdgesTest::plain, x -> x.copy(0, 9, 1, 0, 1), STORE);
        Edges.refused("unlike, j -1", SheetEdgesTest::plain, x -> x.copy(0, 0, 1, -1, 1), STORE);
    }

    // ---- promise 5

    private static void holdsPlaces() {
        GrowingUrns x = plain();
        Edges.due("the first", x.holds(1, 0, 11), 1);
        Edges.due("one below", x.holds(1, 0, 10), 0);
        Edges.due("one above", x.holds(1, 0, 12), 0);
        Edges.due("the last", x.holds(1, 3, 14), 1);
        Edges.due("not of the first", x.holds(1, 3, 11), 0);
        Edges.beside("place of holds", SheetEdgesTest::plain, 0, 3, INDEX, (y, i) -> y.holds(1, i, 0));
        Edges.refused("place 0 of none", SheetEdgesTest::plain, y -> y.holds(3, 0, 0), INDEX);
        Edges.refused("holds of one MISSING", SheetEdgesTest::plain, y -> y.holds(4, 0, 0), NULL);
    }

    private static void holdsWhole() {
        GrowingUrns x = plain();
        x.lay(0, 0, 300);
        Edges.due("a byte holds 44", x.holds(0, 0, 44), 1);
        Edges.due("and not 300", x.holds(0, 0, 300), 0);
        x.lay(0, 1, -1);
        Edges.due("a byte below 0", x.holds(0, 1, -1), 1);
        Edges.due("and not 255", x.holds(0, 1, 255), 0);
        x.lay(1, 0, -1);
        Edges.due("an int below 0", x.holds(1, 0, -1), 1);
        Edges.due("and not 4294967295", x.holds(1, 0, 4294967295L), 0);
        x.lay(2, 0, Long.MIN_VALUE);
        Edges.due("a long", x.holds(2, 0, Long.MIN_VALUE), 1);
        Edges.due("and not its low half", x.holds(2, 0, 0), 0);
    }

    private static void holdsFirst() {
        Edges.refused("SHEET 6, place -1", SheetEdgesTest::plain, x -> x.holds(6, -1, 0), BAD);
        Edges.refused("SHEET -1, place 99", SheetEdgesTest::plain, x -> x.holds(-1, 99, 0), BAD);
        Edges.refused("MISSING, place -1", SheetEdgesTest::plain, x -> x.holds(4, -1, 0), NULL);
        Edges.refused("MISSING, place 16", SheetEdgesTest::plain, x -> x.holds(4, 16, 0), NULL);
    }

    // ---- promise 6

    /** As plain(); SHEET 4 is of longs. */
    private static GrowingUrns toRead(int colours, long... places) {
        GrowingUrns x = Edges.with(new int[colours]);
        x.sheet(4, 2, places.length);
        for (int i = 0; i < places.length; i++) {
            x.lay(4, i, places[i]);
        }
        return x;
    }

    private static void readNumbers() {
        Edges.range("URN of read", SheetEdgesTest::plain, 0, 1, BAD, (x, u) -> x.read(u, 0, 0, 1, 0));
        Edges.beside("URN of read of ADDED", SheetEdgesTest::plain, 0, 1, BAD, (x, u) -> x.read(u, 1, 0, 0, 0));
        Edges.range("rule", () -> toRead(2, 1, 2), 0, 1, BAD, (x, rule) -> x.read(0, rule, 0, 4, 0));
        for (int colours = 2; colours <= 4; colours++) {
            int k = colours;
            Edges.range("COLOUR of rule 1 of " + k, () -> toRead(k, 1, 2, 3, 4), 0, k - 1, BAD,
                (x, c) -> x.read(0, 1, c, 4, 0));
        }
        for (int c : new int[] {-1, 2, 4, LOW, HIGH}) {
            Edges.due("rule 0 does not look at c " + c, plain().read(0, 0, c, 1, 0), 0);
        }
    }

    private static void readOneForEach() {
        for (int k = 2; k <= 4; k++) {
            GrowingUrns x = toRead(k, 9, 8, 7, 6, 500);
            Edges.due("BALLS of " + k, x.read(0, 0, 0, 4, 4 - k), 0);
            GrowingUrns y = toRead(k, 9, 8, 7, 6, 500);
            Edges.due("ADDED of " + k, y.read(0, 1, k - 1, 4, 4 - k), 0);
            for (int d = 0; d < k; d++) {
                Edges.due("BALLS of " + d, x.about(0, 6 + d), 5 + k - d);
                Edges.due("no ADDED", x.added(0, k - 1, d), 0);
                Edges.due("ADDED of " + d, y.added(0, k - 1, d), 5 + k - d);
                Edges.due("not of another COLOUR", y.added(0, 0, d), 0);
                Edges.due("no BALLS", y.about(0, 6 + d), 0);
            }
            Edges.due("URN 1 stays", x.about(1, 1) + y.about(1, 1), 8);
        }
    }

    private static void readIndex() {
        for (int colours = 2; colours <= 4; colours++) {
            int k = colours;
            Edges.range("place of BALLS of " + k, () -> toRead(k, 1, 2, 3, 4, 5), 0, 5 - k, INDEX,
                (x, i) -> x.read(0, 0, 0, 4, i));
            Edges.range("place of ADDED of " + k, () -> toRead(k, 1, 2, 3, 4, 5), 0, 5 - k, INDEX,
                (x, i) -> x.read(0, 1, 1, 4, i));
            Edges.refused("a SHEET too short for " + k, () -> toRead(k, new long[k - 1]),
                x -> x.read(0, 0, 0, 4, 0), INDEX);
            Edges.due("one long enough for " + k, toRead(k, new long[k]).read(0, 0, 0, 4, 0), 0);
        }
        Edges.refused("a SHEET of no places", SheetEdgesTest::plain, x -> x.read(0, 0, 0, 3, 0), INDEX);
    }

    /** One place is v, the others 0, and it is looked at as each of the COLOURS. */
    private static void readValue(String what, int rule, long v, int want) {
        for (int colours = 2; colours <= 4; colours++) {
            for (int place = 0; place < colours; place++) {
                int k = colours;
                long[] places = new long[k];
                places[place] = v;
                if (want == 0) {
                    Edges.due(what + " at " + place, toRead(k, places).read(0, rule, 0, 4, 0), 0);
                } else {
                    Edges.refused(what + " at " + place, () -> toRead(k, places), x -> x.read(0, rule, 0, 4, 0), want);
                }
            }
        }
    }

    private static void readOutOfBalls() {
        readValue("BALLS -1", 0, -1, OUT);
        readValue("BALLS 0", 0, 0, 0);
        readValue("BALLS 200", 0, 200, 0);
        readValue("BALLS 201", 0, 201, OUT);
        readValue("BALLS, a long once round", 0, 4294967296L, OUT);
        readValue("BALLS, the least long", 0, Long.MIN_VALUE, OUT);
        readValue("BALLS, the greatest long", 0, Long.MAX_VALUE, OUT);
    }

    private static void readOutOfAdded() {
        readValue("ADDED -10", 1, -10, OUT);
        readValue("ADDED -9", 1, -9, 0);
        readValue("ADDED 9", 1, 9, 0);
        readValue("ADDED 10", 1, 10, OUT);
        readValue("ADDED, a long once round", 1, 4294967296L, OUT);
        readValue("ADDED, the least long", 1, Long.MIN_VALUE, OUT);
        readValue("ADDED, the greatest long", 1, Long.MAX_VALUE, OUT);
    }

    private static void readOfEachSort() {
        for (int kind = 0; kind < 3; kind++) {
            GrowingUrns x = plain();
            x.sheet(4, kind, 2);
            x.lay(4, 0, 100);
            x.lay(4, 1, 27);
            Edges.due("sort " + kind, x.read(0, 0, 0, 4, 0), 0);
            Edges.due("BALLS of sort " + kind, x.about(0, 6) * 1000 + x.about(0, 7), 100027);
            x.lay(4, 0, -9);
            x.lay(4, 1, 9);
            Edges.due("sort " + kind, x.read(0, 1, 1, 4, 0), 0);
            Edges.due("ADDED of sort " + kind, x.added(0, 1, 0) * 100 + x.added(0, 1, 1), -891);
            Edges.due("below 0 of sort " + kind, x.read(0, 0, 0, 4, 0), OUT);
        }
    }

    private static void readMissing() {
        Edges.refused("BALLS of one MISSING", SheetEdgesTest::plain, x -> x.read(0, 0, 0, 4, 0), NULL);
        Edges.refused("ADDED of one MISSING", SheetEdgesTest::plain, x -> x.read(0, 1, 0, 4, 0), NULL);
    }

    private static void readFirst() {
        Edges.refused("URN 2, MISSING", SheetEdgesTest::plain, x -> x.read(2, 0, 0, 4, 0), BAD);
        Edges.refused("rule 2, MISSING", SheetEdgesTest::plain, x -> x.read(0, 2, 0, 4, 0), BAD);
        Edges.refused("COLOUR 2, MISSING", SheetEdgesTest::plain, x -> x.read(0, 1, 2, 4, 0), BAD);
        Edges.refused("URN 2, beyond", SheetEdgesTest::plain, x -> x.read(2, 0, 0, 1, 99), BAD);
        Edges.refused("rule -1, beyond", SheetEdgesTest::plain, x -> x.read(0, -1, 0, 1, -1), BAD);
        Edges.refused("COLOUR -1, beyond", SheetEdgesTest::plain, x -> x.read(0, 1, -1, 1, 99), BAD);
        Edges.refused("SHEET 6, beyond", SheetEdgesTest::plain, x -> x.read(0, 0, 0, 6, 99), BAD);
        Edges.refused("COLOUR 2, out", SheetEdgesTest::plain, x -> x.read(0, 1, 2, 5, 0), BAD);
        Edges.refused("rule 2, out", SheetEdgesTest::plain, x -> x.read(0, 2, 0, 5, 0), BAD);
        Edges.refused("MISSING, beyond", SheetEdgesTest::plain, x -> x.read(0, 0, 0, 4, 99), NULL);
        Edges.refused("MISSING, place -1", SheetEdgesTest::plain, x -> x.read(0, 1, 0, 4, -1), NULL);
        Edges.refused("the first out, the next beyond", SheetEdgesTest::plain, x -> x.read(0, 1, 0, 5, 4), INDEX);
        Edges.refused("beyond ahead of out, BALLS", () -> toRead(2, 0, 201), x -> x.read(0, 0, 0, 4, 1), INDEX);
    }

    public static void main(String[] args) {
        Edges.sentence("1: No URNS; the SEED 1; THE FRACTION 0", SheetEdgesTest::nothingAtFirst);
        Edges.sentence("1: all SHEETS MISSING", SheetEdgesTest::missingAtFirst);
        Edges.sentence("1: GrowingUrns()", SheetEdgesTest::othersAreNotTouched);
        Edges.sentence("Terms: SHEETS 0 to 5", SheetEdgesTest::sheetNumbers);
        Edges.sentence("2: of bytes, ints, longs (kind 0 to 2)", SheetEdgesTest::sorts);
        Edges.sentence("2: of 0 to 16 places; BAD: also n above 16; SIZE", SheetEdgesTest::sizes);
        Edges.sentence("2: n places, all 0", SheetEdgesTest::allZero);
        Edges.sentence("2: or MISSING (-1; n counts for nothing)", SheetEdgesTest::missingAgain);
        Edges.sentence("2: of several the first: BAD; SIZE", SheetEdgesTest::sheetFirst);
        Edges.sentence("3: Place i of a SHEET becomes v; INDEX", SheetEdgesTest::layPlaces);
        Edges.sentence("3: cut to what it keeps", SheetEdgesTest::cut);
        Edges.sentence("3: NULL", SheetEdgesTest::layMissing);
        Edges.sentence("3: of several the first: BAD; NULL; INDEX", SheetEdgesTest::layFirst);
        Edges.sentence("4: n places of SHEET r from i on come to SHEET t from j on", SheetEdgesTest::copyPlaces);
        Edges.sentence("4: SHEETS of like sorts", SheetEdgesTest::copyOfLikeSorts);
        Edges.sentence("4: n 0", SheetEdgesTest::copyNone);
        Edges.sentence("4: each as it was ahead of all", SheetEdgesTest::copyAsAhead);
        Edges.sentence("4: INDEX: one of n, i, j is below 0, or they go beyond a SHEET", SheetEdgesTest::copyBeyond);
        Edges.sentence("4: STORE", SheetEdgesTest::copyUnlike);
        Edges.sentence("4: NULL (of either)", SheetEdgesTest::copyMissing);
        Edges.sentence("4: of several the first: BAD; NULL; STORE; INDEX", SheetEdgesTest::copyFirst);
        Edges.sentence("5: 1: place i of a SHEET holds v; 0; NULL; INDEX", SheetEdgesTest::holdsPlaces);
        Edges.sentence("5: holds v", SheetEdgesTest::holdsWhole);
        Edges.sentence("5: of several the first: BAD; NULL; INDEX", SheetEdgesTest::holdsFirst);
        Edges.sentence("6: BALLS of an URN (rule 0), ADDED (rule 1; c is not looked at by 0)",
            SheetEdgesTest::readNumbers);
        Edges.sentence("6: places of a SHEET from i on, one for each COLOUR", SheetEdgesTest::readOneForEach);
        Edges.sentence("6: INDEX", SheetEdgesTest::readIndex);
        Edges.sentence("6: OUT: BALLS are 0 to 200", SheetEdgesTest::readOutOfBalls);
        Edges.sentence("6: OUT: ADDED is -9 to 9", SheetEdgesTest::readOutOfAdded);
        Edges.sentence("6: of bytes, ints, longs", SheetEdgesTest::readOfEachSort);
        Edges.sentence("6: NULL", SheetEdgesTest::readMissing);
        Edges.sentence("6: of several the first: BAD; NULL; INDEX; OUT", SheetEdgesTest::readFirst);
        Edges.end();
    }
}
