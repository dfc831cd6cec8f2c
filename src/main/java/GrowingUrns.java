import java.util.Arrays;

/** Urns that grow as balls are drawn; the document ../shared/DOC.md says what each call does. */
public final class GrowingUrns {
    public static final int BAD = -1, NO = -2, FULL = -3, NONE = -4, STUCK = -5, BIG = -6;

    private static final int NULL = -11, INDEX = -12, SIZE = -13, STORE = -14, OUT = -15;
    private static final int BAD_ADDED = -100, BAD_ABOUT = -1000;

    private static final int MISSING = -1, BYTES = 0, INTS = 1, LONGS = 2;
    private static final int SHEETS = 6, PLACES = 16;

    private static final int URNS = 8, LEAST_COLOURS = 2, COLOURS = 4;
    private static final int MOST_BALLS = 200, MOST_ADDED = 9;
    private static final int FROM_BALLS = 0, FROM_ADDED = 1;

    private static final int ACTS = 20;
    // What an act may change of one URN: its BALLS, its TABLE, what its COLOURS are, its DRAWS.
    private static final int URN_ROW = COLOURS + COLOURS * COLOURS + COLOURS + 1;

    private static final long SEED_FACTOR = 48271, SEED_STEP = 11, SEED_ROUND = 2147483647;
    private static final int MOST_SEED = 2147483646, SEED_CUT = 16, MOST_SHAKEN = 50;

    private static final int MOST_DRAWS = 12, MOST_FREE = 5, MOST_LEFT = 400;
    private static final int MOST_MEAN_POWER = 3, MOST_SHARE_POWER = 4;
    private static final long MOST_IN_CHANCE = 1000000000000000000L, MOST_BELOW = 10000000000000000L;

    private final Sheet[] sheets = new Sheet[SHEETS];
    private final Urn[] urns = new Urn[URNS];
    private final Kept kept = new Kept();
    private final Path path = new Path();
    private final Row tried = new Row();
    private final Orders orders = new Orders();
    private final After after = new After();
    private final Fraction fraction = new Fraction();
    private int made = 0;
    private int seed = 1;

    public GrowingUrns() {
        for (int r = 0; r < SHEETS; r++) {
            sheets[r] = new Sheet();
        }
        for (int u = 0; u < URNS; u++) {
            urns[u] = new Urn();
        }
    }

    // ---- sheets

    public int sheet(int r, int kind, int n) {
        Sheet own = sheetAt(r);
        if (own == null || kind < MISSING || kind > LONGS) {
            return BAD;
        }
        if (kind == MISSING) {
            own.become(MISSING, 0);
            return 0;
        }
        if (n > PLACES) {
            return BAD;
        }
        if (n < 0) {
            return SIZE;
        }
        own.become(kind, n);
        return 0;
    }

    public int lay(int r, int i, long v) {
        Sheet own = sheetAt(r);
        if (own == null) {
            return BAD;
        }
        if (own.kind == MISSING) {
            return NULL;
        }
        if (!own.reaches(i, 1)) {
            return INDEX;
        }
        own.places[i] = own.cut(v);
        return 0;
    }

    public int copy(int r, int i, int t, int j, int n) {
        Sheet from = sheetAt(r);
        Sheet to = sheetAt(t);
        if (from == null || to == null) {
            return BAD;
        }
        if (from.kind == MISSING || to.kind == MISSING) {
            return NULL;
        }
        if (from.kind != to.kind) {
            return STORE;
        }
        if (!from.reaches(i, n) || !to.reaches(j, n)) {
            return INDEX;
        }
        System.arraycopy(from.places, i, to.places, j, n);
        return 0;
    }

    public int holds(int r, int i, long v) {
        Sheet own = sheetAt(r);
        if (own == null) {
            return BAD;
        }
        if (own.kind == MISSING) {
            return NULL;
        }
        if (!own.reaches(i, 1)) {
            return INDEX;
        }
        return own.places[i] == v ? 1 : 0;
    }

    public int read(int urn, int rule, int c, int r, int i) {
        Urn own = urnAt(urn);
        Sheet from = sheetAt(r);
        if (own == null || from == null || rule < FROM_BALLS || rule > FROM_ADDED) {
            return BAD;
        }
        if (rule == FROM_ADDED && !own.has(c)) {
            return BAD;
        }
        if (from.kind == MISSING) {
            return NULL;
        }
        if (!from.reaches(i, own.colours)) {
            return INDEX;
        }
        int least = rule == FROM_BALLS ? 0 : -MOST_ADDED;
        int most = rule == FROM_BALLS ? MOST_BALLS : MOST_ADDED;
        if (!from.liesWithin(i, own.colours, least, most)) {
            return OUT;
        }
        keepAct();
        int[] to = rule == FROM_BALLS ? own.balls : own.table;
        int at = rule == FROM_BALLS ? 0 : c * COLOURS;
        for (int d = 0; d < own.colours; d++) {
            to[at + d] = (int) from.places[i + d];
        }
        return 0;
    }

    // ---- urns

    public int urn(int colours) {
        if (colours < LEAST_COLOURS || colours > COLOURS) {
            return BAD;
        }
        if (made >= URNS) {
            return FULL;
        }
        urns[made].colours = colours;
        made++;
        return made - 1;
    }

    public int put(int urn, int c, int n) {
        Urn own = urnAt(urn);
        if (own == null || !own.has(c) || n < 0 || n > MOST_BALLS) {
            return BAD;
        }
        keepAct();
        int was = own.balls[c];
        own.balls[c] = n;
        return was;
    }

    public int add(int urn, int c, int d, int v) {
        Urn own = urnAt(urn);
        if (own == null || !own.has(c) || !own.has(d) || v < -MOST_ADDED || v > MOST_ADDED) {
            return BAD_ADDED;
        }
        keepAct();
        int was = own.table[c * COLOURS + d];
        own.table[c * COLOURS + d] = v;
        return was;
    }

    public int is(int urn, int c, int other) {
        Urn own = urnAt(urn);
        if (own == null || !own.has(c) || other < -1 || other >= urn) {
            return BAD;
        }
        keepAct();
        int was = own.under[c];
        own.under[c] = other;
        return was < 0 ? NONE : was;
    }

    public int about(int urn, int what) {
        Urn own = urnAt(urn);
        if (own == null) {
            return BAD_ABOUT;
        }
        switch (what) {
            case 0: return own.colours;
            case 1: return own.total();
            case 2: return own.draws;
            case 3: return own.isEven() ? 1 : 0;
            case 4: return own.isEven() ? own.growth(0) : 0;
            case 5: return own.isLike() ? 1 : 0;
            default: return what >= 6 && what < 6 + own.colours ? own.balls[what - 6] : BAD_ABOUT;
        }
    }

    public int added(int urn, int c, int d) {
        Urn own = urnAt(urn);
        if (own == null || !own.has(c) || !own.has(d)) {
            return BAD_ADDED;
        }
        return own.table[c * COLOURS + d];
    }

    public int draw(int urn, int c) {
        Urn own = urnAt(urn);
        if (own == null || !own.has(c)) {
            return BAD;
        }
        if (!own.lets(own.balls, c)) {
            return STUCK;
        }
        keepAct();
        own.doDraw(c);
        return own.total();
    }

    public int seed(int v) {
        if (v < 1 || v > MOST_SEED) {
            return BAD;
        }
        seed = v;
        return 0;
    }

    public int drawn(int urn) {
        if (urnAt(urn) == null) {
            return BAD;
        }
        if (!findPath(urn)) {
            return STUCK;
        }
        keepAct();
        goPath();
        int told = 1;
        for (int level = 0; level < path.length; level++) {
            told = told * 10 + path.colours[level];
        }
        return told;
    }

    public int shake(int urn, int n) {
        if (urnAt(urn) == null || n < 1 || n > MOST_SHAKEN) {
            return BAD;
        }
        int done = 0;
        while (done < n && findPath(urn)) {
            if (done == 0) {
                keepAct();
            }
            goPath();
            done++;
        }
        return done;
    }

    public int undo() {
        int[] row = kept.takeLatest();
        if (row == null) {
            return NO;
        }
        for (int u = 0; u < URNS; u++) {
            urns[u].comeFrom(row, u * URN_ROW);
        }
        seed = row[URNS * URN_ROW];
        return 1;
    }

    // ---- chances

    public int chance(int urn, int n, int row) {
        Urn own = urnAt(urn);
        if (own == null || n < 0 || n > MOST_DRAWS || row < 0 || !own.hasAll(n, row)) {
            return BAD;
        }
        if (n > 0 && own.total() == 0) {
            return NO;
        }
        if (!tried.follow(own, n, row)) {
            return BIG;
        }
        fraction.become(0, tried.above, tried.below);
        return 0;
    }

    public int times(int urn, int n, int c, int k) {
        Urn own = urnAt(urn);
        if (own == null || !areDraws(n) || !own.has(c) || k < 0 || k > MOST_DRAWS) {
            return BAD;
        }
        int refused = weighRows(own, n, c);
        if (refused != 0) {
            return refused;
        }
        fraction.become(0, after.byTimes[k], after.below);
        return 0;
    }

    public int left(int urn, int n, int c, int k) {
        Urn own = urnAt(urn);
        if (own == null || !areDraws(n) || !own.has(c) || k < 0 || k > MOST_LEFT) {
            return BAD;
        }
        int refused = weighRows(own, n, c);
        if (refused != 0) {
            return refused;
        }
        fraction.become(0, k > MOST_BALLS ? 0 : after.byBalls[k], after.below);
        return 0;
    }

    public int stuck(int urn, int n) {
        Urn own = urnAt(urn);
        if (own == null || !areDraws(n)) {
            return BAD;
        }
        int refused = weighRows(own, n, 0);
        if (refused != 0) {
            return refused;
        }
        fraction.become(0, after.ended, after.below);
        return 0;
    }

    public int mean(int urn, int n, int c, int m) {
        Urn own = urnAt(urn);
        if (own == null || !areDraws(n) || !own.has(c) || m < 1 || m > MOST_MEAN_POWER) {
            return BAD;
        }
        int refused = weighRows(own, n, c);
        if (refused != 0) {
            return refused;
        }
        after.findMean(m);
        fraction.become(after.meanWhole, after.meanRest, after.below);
        return 0;
    }

    public int told(int urn, int i, int c, int j, int d) {
        Urn own = urnAt(urn);
        if (own == null || i < 1 || j <= i || j > MOST_DRAWS || !own.has(c) || !own.has(d)) {
            return BAD;
        }
        if (!own.isEven() || own.total() == 0) {
            return NO;
        }
        after.letAny();
        after.letOnly(j, d);
        if (after.countRows(own, j) == 0) {
            return NO;
        }
        if (!after.findBelow(own, j)) {
            return BIG;
        }
        after.weigh(own, j, d);
        long known = after.through();
        after.letOnly(i, c);
        after.weigh(own, j, d);
        fraction.become(0, after.through(), known);
        return 0;
    }

    public int share(int urn, int c, int m) {
        Urn own = urnAt(urn);
        if (own == null || !own.has(c) || m < 1 || m > MOST_SHARE_POWER) {
            return BAD;
        }
        int s = own.growth(0);
        if (!own.isLike() || s <= 0 || own.total() == 0) {
            return NO;
        }
        long above = 1;
        long below = 1;
        for (int i = 0; i < m; i++) {
            above *= own.balls[c] + i * s;
            below *= own.total() + i * s;
        }
        fraction.become(0, above, below);
        return 0;
    }

    public int free(int urn, int n) {
        Urn own = urnAt(urn);
        if (own == null || n < 1 || n > MOST_FREE) {
            return BAD;
        }
        if (own.total() == 0) {
            return NO;
        }
        return orders.areAlike(own, n, tried) ? 1 : 0;
    }

    public long part(int what) {
        switch (what) {
            case 0: return fraction.whole;
            case 1: return fraction.above;
            case 2: return fraction.below;
            default: return BAD;
        }
    }

    public int count(int what) {
        switch (what) {
            case 0: return made;
            case 1: return kept.length;
            case 2: return drawsInAll();
            case 3: return seed;
            default: return BAD;
        }
    }

    // ---- inside

    private Sheet sheetAt(int r) {
        return r < 0 || r >= SHEETS ? null : sheets[r];
    }

    private Urn urnAt(int u) {
        return u < 0 || u >= made ? null : urns[u];
    }

    private static boolean areDraws(int n) {
        return n >= 0 && n <= MOST_DRAWS;
    }

    private int drawsInAll() {
        int draws = 0;
        for (int u = 0; u < URNS; u++) {
            draws += urns[u].draws;
        }
        return draws;
    }

    /** Keeps all as it stands ahead of an act. */
    private void keepAct() {
        int[] row = kept.nextRow();
        for (int u = 0; u < URNS; u++) {
            urns[u].goInto(row, u * URN_ROW);
        }
        row[URNS * URN_ROW] = seed;
    }

    /** A DRAW by SEED is only looked for here: one that is STUCK further down then needs no way back. */
    private boolean findPath(int top) {
        int u = top;
        path.length = 0;
        path.seed = seed;
        while (u >= 0 && u < made && path.length < URNS) {
            Urn own = urns[u];
            int total = own.total();
            if (total <= 0) {
                return false;
            }
            path.seed = (path.seed * SEED_FACTOR + SEED_STEP) % SEED_ROUND;
            int c = own.colourOf((int) (path.seed / SEED_CUT % total));
            if (!own.lets(own.balls, c)) {
                return false;
            }
            path.urns[path.length] = u;
            path.colours[path.length] = c;
            path.length++;
            u = own.under[c];
        }
        return true;
    }

    /** Does the DRAWS that findPath has found. */
    private void goPath() {
        for (int level = 0; level < path.length; level++) {
            urns[path.urns[level]].doDraw(path.colours[level]);
        }
        seed = (int) path.seed;
    }

    /** Weighs all rows of n DRAWS with an eye on COLOUR c: 0, or why this is refused. */
    private int weighRows(Urn own, int n, int c) {
        if (!own.isEven() || own.total() == 0) {
            return NO;
        }
        if (!after.findBelow(own, n)) {
            return BIG;
        }
        after.letAny();
        after.weigh(own, n, c);
        return 0;
    }

    /** The greatest common divisor, at least 1, so that it can be divided by. */
    private static long common(long a, long b) {
        long x = a;
        long y = b;
        for (int turn = 0; turn < 200 && y != 0; turn++) {
            long rest = x % y;
            x = y;
            y = rest;
        }
        return x < 1 ? 1 : x;
    }

    /** All sorts keep longs, cut when they are laid: so places are compared and copied alike. */
    private static final class Sheet {
        final long[] places = new long[PLACES];
        int kind = MISSING;
        int length = 0;

        void become(int newKind, int newLength) {
            kind = newKind;
            length = newLength;
            Arrays.fill(places, 0L);
        }

        boolean reaches(int i, int n) {
            return i >= 0 && n >= 0 && n <= length - i;
        }

        long cut(long v) {
            if (kind == BYTES) {
                return (byte) v;
            }
            return kind == INTS ? (int) v : v;
        }

        boolean liesWithin(int i, int n, int least, int most) {
            for (int at = i; at < i + n; at++) {
                if (places[at] < least || places[at] > most) {
                    return false;
                }
            }
            return true;
        }
    }

    /** An URN; COLOURS that it has not are kept at 0 BALLS and added 0. */
    private static final class Urn {
        final int[] balls = new int[COLOURS];
        final int[] table = new int[COLOURS * COLOURS];
        final int[] under = new int[COLOURS];
        int colours = 0;
        int draws = 0;

        Urn() {
            Arrays.fill(under, -1);
        }

        boolean has(int c) {
            return c >= 0 && c < colours;
        }

        boolean hasAll(int n, int row) {
            int rest = row;
            for (int i = 0; i < n; i++) {
                if (!has(rest % COLOURS)) {
                    return false;
                }
                rest /= COLOURS;
            }
            return true;
        }

        int total() {
            return balls[0] + balls[1] + balls[2] + balls[3];
        }

        /** How many BALLS come in all when c is drawn. */
        int growth(int c) {
            int sum = 0;
            for (int d = 0; d < colours; d++) {
                sum += table[c * COLOURS + d];
            }
            return sum;
        }

        boolean isEven() {
            for (int c = 1; c < colours; c++) {
                if (growth(c) != growth(0)) {
                    return false;
                }
            }
            return true;
        }

        boolean isLike() {
            int s = table[0];
            for (int c = 0; c < colours; c++) {
                for (int d = 0; d < colours; d++) {
                    if (table[c * COLOURS + d] != (c == d ? s : 0)) {
                        return false;
                    }
                }
            }
            return s >= 0;
        }

        /** Whether c can be drawn where there are these BALLS, its own or some that are only thought of. */
        boolean lets(int[] these, int c) {
            if (these[c] <= 0) {
                return false;
            }
            for (int d = 0; d < colours; d++) {
                int then = these[d] + table[c * COLOURS + d];
                if (then < 0 || then > MOST_BALLS) {
                    return false;
                }
            }
            return true;
        }

        void grow(int[] these, int c) {
            for (int d = 0; d < colours; d++) {
                these[d] += table[c * COLOURS + d];
            }
        }

        void doDraw(int c) {
            grow(balls, c);
            draws++;
        }

        int colourOf(int number) {
            int together = 0;
            for (int c = 0; c < colours - 1; c++) {
                together += balls[c];
                if (number < together) {
                    return c;
                }
            }
            return colours - 1;
        }

        void goInto(int[] row, int at) {
            System.arraycopy(balls, 0, row, at, COLOURS);
            System.arraycopy(table, 0, row, at + COLOURS, COLOURS * COLOURS);
            System.arraycopy(under, 0, row, at + COLOURS + COLOURS * COLOURS, COLOURS);
            row[at + URN_ROW - 1] = draws;
        }

        void comeFrom(int[] row, int at) {
            System.arraycopy(row, at, balls, 0, COLOURS);
            System.arraycopy(row, at + COLOURS, table, 0, COLOURS * COLOURS);
            System.arraycopy(row, at + COLOURS + COLOURS * COLOURS, under, 0, COLOURS);
            draws = row[at + URN_ROW - 1];
        }
    }

    /** The latest acts, each as a row of all that stood ahead of it; the oldest row is used again. */
    private static final class Kept {
        final int[][] rows = new int[ACTS][URNS * URN_ROW + 1];
        int length = 0;
        int next = 0;

        int[] nextRow() {
            int[] row = rows[next];
            next = (next + 1) % ACTS;
            length = length < ACTS ? length + 1 : ACTS;
            return row;
        }

        int[] takeLatest() {
            if (length == 0) {
                return null;
            }
            length--;
            next = (next + ACTS - 1) % ACTS;
            return rows[next];
        }
    }

    /** The URNS and COLOURS of a DRAW by SEED, from above down, and the SEED behind it. */
    private static final class Path {
        final int[] urns = new int[URNS];
        final int[] colours = new int[URNS];
        int length = 0;
        long seed = 0;
    }

    /** THE FRACTION. */
    private static final class Fraction {
        long whole = 0;
        long above = 0;
        long below = 1;

        void become(long newWhole, long newAbove, long newBelow) {
            if (newBelow < 1) {
                return;
            }
            long rest = newAbove % newBelow;
            long divisor = common(rest, newBelow);
            whole = newWhole + newAbove / newBelow;
            above = rest / divisor;
            below = newBelow / divisor;
        }
    }

    /** A row of DRAWS, followed one behind the other on BALLS that are only thought of. */
    private static final class Row {
        final int[] balls = new int[COLOURS];
        long above = 0;
        long below = 1;

        /** Finds THE CHANCE of a row of COLOURS that are all there; false: it is BIG. */
        boolean follow(Urn urn, int n, int row) {
            System.arraycopy(urn.balls, 0, balls, 0, COLOURS);
            above = 1;
            below = 1;
            int rest = row;
            for (int i = 0; i < n; i++) {
                int c = rest % COLOURS;
                if (!urn.lets(balls, c)) {
                    above = 0;
                    below = 1;
                    return true;
                }
                if (!comeTimes(balls[c], balls[0] + balls[1] + balls[2] + balls[3])) {
                    return false;
                }
                urn.grow(balls, c);
                rest /= COLOURS;
            }
            return true;
        }

        /** Divides ahead of multiplying, so that no number on the way is greater than the one asked for. */
        boolean comeTimes(int some, int all) {
            long own = common(some, all);
            long more = some / own;
            long less = all / own;
            long first = common(above, less);
            long second = common(more, below);
            above /= first;
            less /= first;
            below /= second;
            more /= second;
            if (more < 1 || less < 1 || above > MOST_IN_CHANCE / more || below > MOST_IN_CHANCE / less) {
                return false;
            }
            above *= more;
            below *= less;
            return true;
        }
    }

    /** Whether rows of the same COLOURS, so often, have the same CHANCE. */
    private static final class Orders {
        // How often three of the COLOURS come, 0 to 5 each; the last one has what is left.
        private static final int SIDE = MOST_FREE + 1;
        private static final int[] STEPS = {SIDE * SIDE, SIDE, 1, 0};

        final long[] aboves = new long[SIDE * SIDE * SIDE];
        final long[] belows = new long[SIDE * SIDE * SIDE];

        boolean areAlike(Urn urn, int n, Row tried) {
            Arrays.fill(belows, 0L);
            int rows = 1;
            for (int i = 0; i < n; i++) {
                rows *= COLOURS;
            }
            for (int row = 0; row < rows; row++) {
                if (urn.hasAll(n, row) && tried.follow(urn, n, row) && !isAsAhead(placeOf(n, row), tried)) {
                    return false;
                }
            }
            return true;
        }

        private static int placeOf(int n, int row) {
            int place = 0;
            int rest = row;
            for (int i = 0; i < n; i++) {
                place += STEPS[rest % COLOURS];
                rest /= COLOURS;
            }
            return place;
        }

        /** The first row of its COLOURS is the one that the others are held against. */
        private boolean isAsAhead(int place, Row tried) {
            if (belows[place] == 0) {
                aboves[place] = tried.above;
                belows[place] = tried.below;
                return true;
            }
            return aboves[place] == tried.above && belows[place] == tried.below;
        }
    }

    /**
     * All rows of n DRAWS of an EVEN URN, gathered by how often each COLOUR was drawn: rows alike in this
     * leave the same BALLS. A chance is a whole weight over D, as all rows have the same BALLS in all.
     */
    private static final class After {
        private static final int SIDE = MOST_DRAWS + 1;
        private static final int[] STEPS = {SIDE * SIDE, SIDE, 1, 0};

        // Both are all 0 between two walks.
        private long[] now = new long[SIDE * SIDE * SIDE];
        private long[] next = new long[SIDE * SIDE * SIDE];

        private final int[] only = new int[MOST_DRAWS];
        private final int[] often = new int[COLOURS];
        private final int[] balls = new int[COLOURS];
        final long[] byTimes = new long[MOST_DRAWS + 1];
        final long[] byBalls = new long[MOST_BALLS + 1];
        long ended = 0;
        long below = 1;
        long meanWhole = 0;
        long meanRest = 0;

        void letAny() {
            Arrays.fill(only, -1);
        }

        /** From here on only the rows count whose DRAW i (1 the first) is c. */
        void letOnly(int i, int c) {
            only[i - 1] = c;
        }

        /** Finds D; false: it is BIG. */
        boolean findBelow(Urn urn, int n) {
            below = 1;
            for (int step = 0; step < n; step++) {
                long factor = factorAt(urn, step);
                if (below > MOST_BELOW / factor) {
                    return false;
                }
                below *= factor;
            }
            return true;
        }

        private static long factorAt(Urn urn, int step) {
            int total = urn.total() + step * urn.growth(0);
            return total > 0 ? total : 1;
        }

        /** How many rows come through: what can be is asked for even where weights would be BIG. */
        long countRows(Urn urn, int n) {
            walk(urn, n, 0, false);
            return through();
        }

        void weigh(Urn urn, int n, int c) {
            walk(urn, n, c, true);
        }

        long through() {
            long sum = 0;
            for (long weight : byTimes) {
                sum += weight;
            }
            return sum;
        }

        /** Finds THE MEAN of BALLS to the power m; multiplies by one BALLS at a time, as weights are great. */
        void findMean(int m) {
            meanWhole = 0;
            meanRest = 0;
            if (below < 1) {
                return;
            }
            for (int some = 1; some <= MOST_BALLS; some++) {
                long whole = 0;
                long rest = byBalls[some];
                for (int i = 0; i < m && rest + whole > 0; i++) {
                    long product = rest * some;
                    whole = whole * some + product / below;
                    rest = product % below;
                }
                meanWhole += whole + (meanRest + rest) / below;
                meanRest = (meanRest + rest) % below;
            }
        }

        private void walk(Urn urn, int n, int c, boolean weighing) {
            Arrays.fill(byTimes, 0L);
            ended = 0;
            Arrays.fill(byBalls, 0L);
            now[0] = 1;
            for (int step = 0; step <= n; step++) {
                if (step < n) {
                    // Rows that have ended come to the same D as those that go on.
                    ended *= factorAt(urn, step);
                }
                walkStep(urn, step, n, c, weighing);
                long[] done = now;
                now = next;
                next = done;
            }
        }

        private void walkStep(Urn urn, int step, int n, int c, boolean weighing) {
            for (int first = 0; first <= step; first++) {
                for (int second = 0; first + second <= step; second++) {
                    for (int third = 0; first + second + third <= step; third++) {
                        int place = first * STEPS[0] + second * STEPS[1] + third * STEPS[2];
                        long weight = now[place];
                        if (weight == 0) {
                            continue;
                        }
                        now[place] = 0;
                        often[0] = first;
                        often[1] = second;
                        often[2] = third;
                        often[3] = step - first - second - third;
                        findBalls(urn);
                        if (step == n) {
                            settle(weight, often[c], balls[c]);
                        } else {
                            spread(urn, place, weight, only[step], weighing);
                        }
                    }
                }
            }
        }

        private void settle(long weight, int k, int some) {
            byTimes[k] += weight;
            if (some >= 0 && some <= MOST_BALLS) {
                byBalls[some] += weight;
            }
        }

        private void findBalls(Urn urn) {
            for (int d = 0; d < COLOURS; d++) {
                balls[d] = urn.balls[d];
                for (int c = 0; c < COLOURS; c++) {
                    balls[d] += often[c] * urn.table[c * COLOURS + d];
                }
            }
        }

        /** One DRAW more: what it leaves, or the end of the row if it is STUCK. */
        private void spread(Urn urn, int place, long weight, int onlyColour, boolean weighing) {
            if (balls[0] + balls[1] + balls[2] + balls[3] == 0) {
                ended += weight;
                return;
            }
            for (int c = 0; c < urn.colours; c++) {
                if (balls[c] == 0 || onlyColour >= 0 && c != onlyColour) {
                    continue;
                }
                long share = weighing ? weight * balls[c] : weight;
                if (urn.lets(balls, c)) {
                    next[place + STEPS[c]] += share;
                } else {
                    ended += share;
                }
            }
        }
    }
}
