import java.math.BigInteger;
import java.util.ArrayList;
import java.util.Arrays;
import java.util.HashMap;
import java.util.List;
import java.util.Map;

/**
 * Runs of many calls, each answer held against a second telling of the document: BigInteger fractions, rows
 * of real bytes, ints and longs, and a whole copy of all URNS for each act. The choice of calls is always the same.
 */
public final class ModelTest {
    private static final BigInteger ROW_LIMIT = BigInteger.TEN.pow(18);
    private static final BigInteger D_LIMIT = BigInteger.TEN.pow(16);
    private static final int BAD = -1, NO = -2, FULL = -3, NONE = -4, STUCK = -5, BIG = -6;
    private static final int NULL = -11, INDEX = -12, SIZE = -13, STORE = -14, OUT = -15;

    /** A fraction of two BigIntegers in lowest terms. */
    private static final class Q {
        static final Q ZERO = of(0, 1), ONE = of(1, 1);
        final BigInteger above, below;

        Q(BigInteger a, BigInteger b) {
            BigInteger g = a.gcd(b);
            above = a.divide(g);
            below = b.divide(g);
        }

        static Q of(long a, long b) {
            return new Q(BigInteger.valueOf(a), BigInteger.valueOf(b));
        }

        Q plus(Q o) {
            return new Q(above.multiply(o.below).add(o.above.multiply(below)), below.multiply(o.below));
        }

        Q mul(Q o) {
            return new Q(above.multiply(o.above), below.multiply(o.below));
        }

        Q by(Q o) {
            return new Q(above.multiply(o.below), below.multiply(o.above));
        }

        boolean same(Q o) {
            return above.equals(o.above) && below.equals(o.below);
        }
    }

    private static final class U {
        int[] balls;
        int[][] add;
        int[] is;
        int draws;

        U(int k) {
            balls = new int[k];
            add = new int[k][k];
            is = new int[k];
            Arrays.fill(is, -1);
        }

        U twin() {
            U u = new U(balls.length);
            u.balls = balls.clone();
            u.is = is.clone();
            u.draws = draws;
            for (int c = 0; c < balls.length; c++) {
                u.add[c] = add[c].clone();
            }
            return u;
        }

        int all() {
            return Arrays.stream(balls).sum();
        }

        boolean even() {
            for (int[] row : add) {
                if (Arrays.stream(row).sum() != s()) {
                    return false;
                }
            }
            return true;
        }

        int s() {
            return Arrays.stream(add[0]).sum();
        }

        boolean like() {
            for (int c = 0; c < add.length; c++) {
                for (int d = 0; d < add.length; d++) {
                    if (c != d && add[c][d] != 0 || c == d && add[c][d] != add[0][0]) {
                        return false;
                    }
                }
            }
            return add[0][0] >= 0;
        }

        boolean colour(int c) {
            return c >= 0 && c < balls.length;
        }

        /** The BALLS behind a DRAW of c, or null: STUCK. */
        int[] behind(int[] b, int c) {
            if (b[c] == 0) {
                return null;
            }
            int[] then = b.clone();
            for (int d = 0; d < then.length; d++) {
                then[d] += add[c][d];
                if (then[d] < 0 || then[d] > 200) {
                    return null;
                }
            }
            return then;
        }
    }

    private static final class World {
        List<U> urns = new ArrayList<>();
        long seed = 1;
    }

    /** The rows of n DRAWS by what was drawn, those that came through and those that ended. */
    private static final class Rows {
        Map<List<Integer>, Q> through = new HashMap<>();
        Map<List<Integer>, Q> ended = new HashMap<>();
    }

    /** The second telling. */
    private static final class Model {
        Object[] sheets = new Object[6];
        World w = new World();
        List<World> acts = new ArrayList<>();
        Q fraction = Q.ZERO;

        U urnAt(int u) {
            return u < 0 || u >= w.urns.size() ? null : w.urns.get(u);
        }

        World twin() {
            World t = new World();
            t.seed = w.seed;
            for (U u : w.urns) {
                t.urns.add(u.twin());
            }
            return t;
        }

        void act(World ahead) {
            acts.add(ahead);
            if (acts.size() > 20) {
                acts.remove(0);
            }
        }

        static int kind(Object s) {
            return s instanceof byte[] ? 0 : s instanceof int[] ? 1 : 2;
        }

        static long at(Object s, int i) {
            return s instanceof byte[] ? ((byte[]) s)[i] : s instanceof int[] ? ((int[]) s)[i] : ((long[]) s)[i];
        }

        static void set(Object s, int i, long v) {
            if (s instanceof byte[]) {
                ((byte[]) s)[i] = (byte) v;
            } else if (s instanceof int[]) {
                ((int[]) s)[i] = (int) v;
            } else {
                ((long[]) s)[i] = v;
            }
        }

        static int size(Object s) {
            return java.lang.reflect.Array.getLength(s);
        }

        int sheet(int r, int kind, int n) {
            if (r < 0 || r > 5 || kind < -1 || kind > 2) {
                return BAD;
            }
            if (kind == -1) {
                sheets[r] = null;
                return 0;
            }
            if (n > 16) {
                return BAD;
            }
            if (n < 0) {
                return SIZE;
            }
            sheets[r] = kind == 0 ? new byte[n] : kind == 1 ? new int[n] : new long[n];
            return 0;
        }

        int place(int r, int i) {
            if (r < 0 || r > 5) {
                return BAD;
            }
            if (sheets[r] == null) {
                return NULL;
            }
            return i < 0 || i >= size(sheets[r]) ? INDEX : 0;
        }

        int lay(int r, int i, long v) {
            int e = place(r, i);
            if (e == 0) {
                set(sheets[r], i, v);
            }
            return e;
        }

        int holds(int r, int i, long v) {
            int e = place(r, i);
            return e != 0 ? e : at(sheets[r], i) == v ? 1 : 0;
        }

        int copy(int r, int i, int t, int j, int n) {
            if (r < 0 || r > 5 || t < 0 || t > 5) {
                return BAD;
            }
            if (sheets[r] == null || sheets[t] == null) {
                return NULL;
            }
            if (kind(sheets[r]) != kind(sheets[t])) {
                return STORE;
            }
            if (n < 0 || i < 0 || j < 0 || (long) i + n > size(sheets[r]) || (long) j + n > size(sheets[t])) {
                return INDEX;
            }
            long[] ahead = new long[n];
            for (int k = 0; k < n; k++) {
                ahead[k] = at(sheets[r], i + k);
            }
            for (int k = 0; k < n; k++) {
                set(sheets[t], j + k, ahead[k]);
            }
            return 0;
        }

        int read(int u, int rule, int c, int r, int i) {
            U o = urnAt(u);
            if (o == null || rule < 0 || rule > 1 || rule == 1 && !o.colour(c) || r < 0 || r > 5) {
                return BAD;
            }
            if (sheets[r] == null) {
                return NULL;
            }
            if (i < 0 || (long) i + o.balls.length > size(sheets[r])) {
                return INDEX;
            }
            for (int d = 0; d < o.balls.length; d++) {
                long v = at(sheets[r], i + d);
                if (rule == 0 ? v < 0 || v > 200 : v < -9 || v > 9) {
                    return OUT;
                }
            }
            act(twin());
            for (int d = 0; d < o.balls.length; d++) {
                (rule == 0 ? o.balls : o.add[c])[d] = (int) at(sheets[r], i + d);
            }
            return 0;
        }

        int urn(int k) {
            if (k < 2 || k > 4) {
                return BAD;
            }
            if (w.urns.size() == 8) {
                return FULL;
            }
            w.urns.add(new U(k));
            for (World a : acts) {
                a.urns.add(new U(k));
            }
            return w.urns.size() - 1;
        }

        int put(int u, int c, int n) {
            U o = urnAt(u);
            if (o == null || !o.colour(c) || n < 0 || n > 200) {
                return BAD;
            }
            act(twin());
            int was = o.balls[c];
            o.balls[c] = n;
            return was;
        }

        int add(int u, int c, int d, int v) {
            U o = urnAt(u);
            if (o == null || !o.colour(c) || !o.colour(d) || v < -9 || v > 9) {
                return -100;
            }
            act(twin());
            int was = o.add[c][d];
            o.add[c][d] = v;
            return was;
        }

        int is(int u, int c, int other) {
            U o = urnAt(u);
            if (o == null || !o.colour(c) || other < -1 || other >= u) {
                return BAD;
            }
            act(twin());
            int was = o.is[c];
            o.is[c] = other;
            return was == -1 ? NONE : was;
        }

        int about(int u, int what) {
            U o = urnAt(u);
            if (o == null || what < 0 || what >= 6 + o.balls.length) {
                return -1000;
            }
            int[] told = {o.balls.length, o.all(), o.draws, o.even() ? 1 : 0, o.even() ? o.s() : 0, o.like() ? 1 : 0};
            return what < 6 ? told[what] : o.balls[what - 6];
        }

        int added(int u, int c, int d) {
            U o = urnAt(u);
            return o == null || !o.colour(c) || !o.colour(d) ? -100 : o.add[c][d];
        }

        int draw(int u, int c) {
            U o = urnAt(u);
            if (o == null || !o.colour(c)) {
                return BAD;
            }
            int[] then = o.behind(o.balls, c);
            if (then == null) {
                return STUCK;
            }
            act(twin());
            o.balls = then;
            o.draws++;
            return o.all();
        }

        int seed(int v) {
            if (v < 1 || v > 2147483646) {
                return BAD;
            }
            w.seed = v;
            return 0;
        }

        /** Changes the world at once; the caller brings it back if null. */
        String seedDraw(int u) {
            U o = w.urns.get(u);
            if (o.all() == 0) {
                return null;
            }
            w.seed = (w.seed * 48271 + 11) % 2147483647;
            long x = w.seed / 16 % o.all();
            int c = 0;
            for (long sum = o.balls[0]; x >= sum; sum += o.balls[c]) {
                c++;
            }
            int[] then = o.behind(o.balls, c);
            if (then == null) {
                return null;
            }
            o.balls = then;
            o.draws++;
            if (o.is[c] < 0) {
                return "" + c;
            }
            String more = seedDraw(o.is[c]);
            return more == null ? null : c + more;
        }

        int drawn(int u) {
            if (urnAt(u) == null) {
                return BAD;
            }
            World ahead = twin();
            String told = seedDraw(u);
            if (told == null) {
                w = ahead;
                return STUCK;
            }
            act(ahead);
            return Integer.parseInt("1" + told);
        }

        int shake(int u, int n) {
            if (urnAt(u) == null || n < 1 || n > 50) {
                return BAD;
            }
            World first = twin();
            int done = 0;
            for (; done < n; done++) {
                World ahead = twin();
                if (seedDraw(u) == null) {
                    w = ahead;
                    break;
                }
            }
            if (done > 0) {
                act(first);
            }
            return done;
        }

        int undo() {
            if (acts.isEmpty()) {
                return NO;
            }
            w = acts.remove(acts.size() - 1);
            return 1;
        }

        /** THE CHANCE of a row, or null: BIG. */
        static Q rowChance(U o, int[] row) {
            Q q = Q.ONE;
            int[] b = o.balls;
            for (int c : row) {
                int[] then = o.behind(b, c);
                if (then == null) {
                    return Q.ZERO;
                }
                q = q.mul(Q.of(b[c], Arrays.stream(b).sum()));
                if (q.above.compareTo(ROW_LIMIT) > 0 || q.below.compareTo(ROW_LIMIT) > 0) {
                    return null;
                }
                b = then;
            }
            return q;
        }

        int chance(int u, int n, int row) {
            U o = urnAt(u);
            if (o == null || n < 0 || n > 12 || row < 0) {
                return BAD;
            }
            int[] colours = new int[n];
            for (int i = 0; i < n; i++) {
                colours[i] = row >> 2 * i & 3;
                if (!o.colour(colours[i])) {
                    return BAD;
                }
            }
            if (n > 0 && o.all() == 0) {
                return NO;
            }
            Q q = rowChance(o, colours);
            if (q == null) {
                return BIG;
            }
            fraction = q;
            return 0;
        }

        int refused(U o, int n) {
            if (!o.even() || o.all() == 0) {
                return NO;
            }
            return isBig(o, n) ? BIG : 0;
        }

        static boolean isBig(U o, int n) {
            BigInteger d = BigInteger.ONE;
            for (int i = 0; i < n; i++) {
                int factor = o.all() + i * o.s();
                if (factor > 0) {
                    d = d.multiply(BigInteger.valueOf(factor));
                }
            }
            return d.compareTo(D_LIMIT) > 0;
        }

        static int[] ballsAt(U o, List<Integer> often) {
            int[] b = o.balls.clone();
            for (int c = 0; c < b.length; c++) {
                for (int d = 0; d < b.length; d++) {
                    b[d] += often.get(c) * o.add[c][d];
                }
            }
            return b;
        }

        /** Rows of n DRAWS; fixed: the COLOUR of DRAW i + 1, or -1. */
        static Rows rows(U o, int n, int[] fixed) {
            Rows rows = new Rows();
            rows.through.put(java.util.Collections.nCopies(o.balls.length, 0), Q.ONE);
            for (int i = 0; i < n; i++) {
                Map<List<Integer>, Q> next = new HashMap<>();
                for (Map.Entry<List<Integer>, Q> e : rows.through.entrySet()) {
                    int[] b = ballsAt(o, e.getKey());
                    int all = Arrays.stream(b).sum();
                    if (all == 0) {
                        rows.ended.merge(e.getKey(), e.getValue(), Q::plus);
                        continue;
                    }
                    for (int c = 0; c < b.length; c++) {
                        if (b[c] == 0 || fixed[i] >= 0 && fixed[i] != c) {
                            continue;
                        }
                        Q q = e.getValue().mul(Q.of(b[c], all));
                        if (o.behind(b, c) == null) {
                            rows.ended.merge(e.getKey(), q, Q::plus);
                        } else {
                            List<Integer> more = new ArrayList<>(e.getKey());
                            more.set(c, more.get(c) + 1);
                            next.merge(more, q, Q::plus);
                        }
                    }
                }
                rows.through = next;
            }
            return rows;
        }

        static int[] any() {
            int[] fixed = new int[12];
            Arrays.fill(fixed, -1);
            return fixed;
        }

        int times(int u, int n, int c, int k) {
            U o = urnAt(u);
            if (o == null || n < 0 || n > 12 || !o.colour(c) || k < 0 || k > 12) {
                return BAD;
            }
            int e = refused(o, n);
            if (e != 0) {
                return e;
            }
            Q q = Q.ZERO;
            for (Map.Entry<List<Integer>, Q> x : rows(o, n, any()).through.entrySet()) {
                q = x.getKey().get(c) == k ? q.plus(x.getValue()) : q;
            }
            fraction = q;
            return 0;
        }

        int left(int u, int n, int c, int k) {
            U o = urnAt(u);
            if (o == null || n < 0 || n > 12 || !o.colour(c) || k < 0 || k > 400) {
                return BAD;
            }
            int e = refused(o, n);
            if (e != 0) {
                return e;
            }
            Q q = Q.ZERO;
            for (Map.Entry<List<Integer>, Q> x : rows(o, n, any()).through.entrySet()) {
                q = ballsAt(o, x.getKey())[c] == k ? q.plus(x.getValue()) : q;
            }
            fraction = q;
            return 0;
        }

        int stuck(int u, int n) {
            U o = urnAt(u);
            if (o == null || n < 0 || n > 12) {
                return BAD;
            }
            int e = refused(o, n);
            if (e != 0) {
                return e;
            }
            fraction = sum(rows(o, n, any()).ended);
            return 0;
        }

        static Q sum(Map<List<Integer>, Q> some) {
            Q q = Q.ZERO;
            for (Q x : some.values()) {
                q = q.plus(x);
            }
            return q;
        }

        int mean(int u, int n, int c, int m) {
            U o = urnAt(u);
            if (o == null || n < 0 || n > 12 || !o.colour(c) || m < 1 || m > 3) {
                return BAD;
            }
            int e = refused(o, n);
            if (e != 0) {
                return e;
            }
            Q q = Q.ZERO;
            for (Map.Entry<List<Integer>, Q> x : rows(o, n, any()).through.entrySet()) {
                long b = ballsAt(o, x.getKey())[c];
                q = q.plus(x.getValue().mul(Q.of(m == 1 ? b : m == 2 ? b * b : b * b * b, 1)));
            }
            fraction = q;
            return 0;
        }

        int told(int u, int i, int c, int j, int d) {
            U o = urnAt(u);
            if (o == null || i < 1 || j > 12 || i >= j || !o.colour(c) || !o.colour(d)) {
                return BAD;
            }
            if (!o.even() || o.all() == 0) {
                return NO;
            }
            int[] fixed = any();
            fixed[j - 1] = d;
            Q known = sum(rows(o, j, fixed).through);
            if (known.same(Q.ZERO)) {
                return NO;
            }
            if (isBig(o, j)) {
                return BIG;
            }
            fixed[i - 1] = c;
            fraction = sum(rows(o, j, fixed).through).by(known);
            return 0;
        }

        int share(int u, int c, int m) {
            U o = urnAt(u);
            if (o == null || !o.colour(c) || m < 1 || m > 4) {
                return BAD;
            }
            if (!o.like() || o.s() <= 0 || o.all() == 0) {
                return NO;
            }
            Q q = Q.ONE;
            for (int i = 0; i < m; i++) {
                q = q.mul(Q.of(o.balls[c] + i * o.s(), o.all() + i * o.s()));
            }
            fraction = q;
            return 0;
        }

        int free(int u, int n) {
            U o = urnAt(u);
            if (o == null || n < 1 || n > 5) {
                return BAD;
            }
            return o.all() == 0 ? NO : alike(o, new int[n], 0, new HashMap<>()) ? 1 : 0;
        }

        static boolean alike(U o, int[] row, int at, Map<String, Q> seen) {
            if (at == row.length) {
                int[] sorted = row.clone();
                Arrays.sort(sorted);
                Q q = rowChance(o, row);
                Q other = seen.putIfAbsent(Arrays.toString(sorted), q);
                return other == null || other.same(q);
            }
            for (int c = 0; c < o.balls.length; c++) {
                row[at] = c;
                if (!alike(o, row, at + 1, seen)) {
                    return false;
                }
            }
            return true;
        }

        long part(int what) {
            BigInteger[] parts = fraction.above.divideAndRemainder(fraction.below);
            return what < 0 || what > 2 ? BAD
                : (what == 0 ? parts[0] : what == 1 ? parts[1] : fraction.below).longValueExact();
        }

        int count(int what) {
            switch (what) {
                case 0: return w.urns.size();
                case 1: return acts.size();
                case 2: return w.urns.stream().mapToInt(u -> u.draws).sum();
                case 3: return (int) w.seed;
                default: return BAD;
            }
        }
    }

    private static long chooser = 20260101;
    // The document says nothing of an object's later calls.
    private static final int MOST_CALLS = 512;
    private static int calls = 0;
    private static int wrong = 0;
    private static final StringBuilder log = new StringBuilder();

    private static int pick(int n) {
        chooser = chooser * 6364136223846793005L + 1442695040888963407L;
        return (int) ((chooser >>> 33) % n);
    }

    /** A number from low to high, at times one beside it or far from it. */
    private static int near(int low, int high) {
        int x = pick(60);
        if (x == 0) {
            return low - 1;
        }
        if (x == 1) {
            return high + 1;
        }
        if (x == 2) {
            return pick(2) == 0 ? Integer.MIN_VALUE : Integer.MAX_VALUE;
        }
        return low + pick(high - low + 1);
    }

    private static int highest(Model y, int u) {
        U o = y.urnAt(u);
        return o == null ? 3 : o.balls.length - 1;
    }

    private static void same(String call, long got, long want) {
        calls++;
        log.append(call).append(" = ").append(got).append('\n');
        if (got != want) {
            wrong++;
            if (wrong < 5) {
                System.out.println(log);
                System.out.println("^ due is " + want);
            }
        }
    }

    private static String told(String name, long... a) {
        return name + Arrays.toString(a);
    }

    private static void parts(GrowingUrns x, Model y) {
        for (int p = 0; p < 3; p++) {
            same("part " + p, x.part(p), y.part(p));
        }
    }

    private static void sheetCall(GrowingUrns x, Model y) {
        int r = near(0, 2);
        int i = near(0, 6);
        long v = pick(4) == 0 ? (((long) pick(1 << 30)) << pick(30)) * (pick(2) * 2 - 1) : near(-12, 12);
        switch (pick(6)) {
            case 0: {
                int kind = pick(3) == 0 ? near(-1, 2) : 1;
                int n = near(0, 16);
                same(told("sheet", r, kind, n), x.sheet(r, kind, n), y.sheet(r, kind, n));
                break;
            }
            case 1: {
                int t = near(0, 2);
                int j = near(0, 6);
                int n = near(0, 6);
                same(told("copy", r, i, t, j, n), x.copy(r, i, t, j, n), y.copy(r, i, t, j, n));
                break;
            }
            case 2:
                same(told("holds", r, i, v), x.holds(r, i, v), y.holds(r, i, v));
                break;
            default:
                same(told("lay", r, i, v), x.lay(r, i, v), y.lay(r, i, v));
        }
        int some = pick(3);
        for (int p = 0; p < 16; p++) {
            if (y.place(some, p) == 0) {
                same(told("holds", some, p), x.holds(some, p, Model.at(y.sheets[some], p)), 1);
            }
        }
    }

    private static void urnCall(GrowingUrns x, Model y, int most) {
        int u = near(0, Math.max(0, y.w.urns.size() - 1));
        int c = near(0, highest(y, u));
        switch (pick(12)) {
            case 0: {
                int n = pick(3) == 0 ? near(0, 200) : near(0, most);
                same(told("put", u, c, n), x.put(u, c, n), y.put(u, c, n));
                break;
            }
            case 1: {
                int d = near(0, highest(y, u));
                int v = near(-9, 9);
                same(told("add", u, c, d, v), x.add(u, c, d, v), y.add(u, c, d, v));
                break;
            }
            case 2: {
                int other = near(-1, u > 0 ? u - 1 : 0);
                same(told("is", u, c, other), x.is(u, c, other), y.is(u, c, other));
                break;
            }
            case 3:
            case 4:
                same(told("draw", u, c), x.draw(u, c), y.draw(u, c));
                break;
            case 5: {
                int v = near(1, 2147483645);
                same(told("seed", v), x.seed(v), y.seed(v));
                break;
            }
            case 6:
            case 7:
                same(told("drawn", u), x.drawn(u), y.drawn(u));
                break;
            case 8: {
                int n = near(1, 50);
                same(told("shake", u, n), x.shake(u, n), y.shake(u, n));
                break;
            }
            case 9:
                same("undo", x.undo(), y.undo());
                break;
            case 10: {
                int k = near(2, 4);
                same(told("urn", k), x.urn(k), y.urn(k));
                break;
            }
            default: {
                int rule = near(0, 1);
                int r = near(0, 2);
                int i = near(0, 6);
                same(told("read", u, rule, c, r, i), x.read(u, rule, c, r, i), y.read(u, rule, c, r, i));
            }
        }
        look(x, y, u);
    }

    /** What can be seen of one URN and of the whole. */
    private static void look(GrowingUrns x, Model y, int u) {
        for (int what = 0; what < 4; what++) {
            same(told("count", what), x.count(what), y.count(what));
        }
        for (int what = 0; what < 6 + highest(y, u) + 1; what++) {
            same(told("about", u, what), x.about(u, what), y.about(u, what));
        }
        int c = near(0, 3);
        for (int d = 0; d <= highest(y, u); d++) {
            same(told("added", u, c, d), x.added(u, c, d), y.added(u, c, d));
        }
    }

    private static boolean hasCalls(int more) {
        return calls + more <= MOST_CALLS;
    }

    private static void chanceCall(GrowingUrns x, Model y) {
        int u = near(0, Math.max(0, y.w.urns.size() - 1));
        int c = near(0, highest(y, u));
        int n = near(0, pick(3) == 0 ? 12 : 6);
        switch (pick(8)) {
            case 0: {
                int row = 0;
                for (int i = 0; i < 13; i++) {
                    row = row * 4 + pick(highest(y, u) + 1 + (pick(50) == 0 ? 1 : 0));
                }
                row = pick(20) == 0 ? -row - 1 : row;
                same(told("chance", u, n, row), x.chance(u, n, row), y.chance(u, n, row));
                break;
            }
            case 1: {
                int k = near(0, pick(2) == 0 ? 12 : 3);
                same(told("times", u, n, c, k), x.times(u, n, c, k), y.times(u, n, c, k));
                break;
            }
            case 2: {
                int k = near(0, pick(4) == 0 ? 400 : 30);
                same(told("left", u, n, c, k), x.left(u, n, c, k), y.left(u, n, c, k));
                break;
            }
            case 3:
                same(told("stuck", u, n), x.stuck(u, n), y.stuck(u, n));
                break;
            case 4: {
                int m = near(1, 3);
                same(told("mean", u, n, c, m), x.mean(u, n, c, m), y.mean(u, n, c, m));
                break;
            }
            case 5: {
                int i = near(1, 6);
                int j = near(2, 12);
                int d = near(0, highest(y, u));
                same(told("told", u, i, c, j, d), x.told(u, i, c, j, d), y.told(u, i, c, j, d));
                break;
            }
            case 6: {
                int m = near(1, 4);
                same(told("share", u, c, m), x.share(u, c, m), y.share(u, c, m));
                break;
            }
            default: {
                int m = near(1, 5);
                same(told("free", u, m), x.free(u, m), y.free(u, m));
            }
        }
        parts(x, y);
    }

    /** Makes an URN EVEN: by chance a table has not often such sums. */
    private static void makeEven(GrowingUrns x, Model y, int most) {
        if (y.w.urns.isEmpty()) {
            return;
        }
        int u = pick(y.w.urns.size());
        int k = y.w.urns.get(u).balls.length;
        int s = pick(7) - 3;
        boolean like = pick(4) == 0;
        for (int c = 0; c < k; c++) {
            int rest = s;
            for (int d = 0; d < k; d++) {
                int v = like ? c == d ? s : 0 : d == k - 1 ? rest : pick(5) - 2;
                v = Math.max(-9, Math.min(9, v));
                rest -= v;
                same(told("add", u, c, d, v), x.add(u, c, d, v), y.add(u, c, d, v));
            }
            int n = pick(most + 1);
            same(told("put", u, c, n), x.put(u, c, n), y.put(u, c, n));
        }
    }

    private static void run(int number) {
        GrowingUrns x = new GrowingUrns();
        Model y = new Model();
        calls = 0;
        log.setLength(0);
        log.append("run ").append(number).append('\n');
        int[] sizes = {3, 6, 12, 40, 200};
        int most = sizes[number % sizes.length];
        for (int i = 0; i < 1 + pick(9); i++) {
            int k = near(2, 4);
            same(told("urn", k), x.urn(k), y.urn(k));
        }
        for (int r = 0; r < 3; r++) {
            int kind = near(0, 2);
            same(told("sheet", r, kind, 9), x.sheet(r, kind, 9), y.sheet(r, kind, 9));
        }
        for (int u = 0; u < y.w.urns.size(); u++) {
            int c = pick(2);
            int other = u - 1;
            same(told("is", u, c, other), x.is(u, c, other), y.is(u, c, other));
        }
        makeEven(x, y, most);
        while (hasCalls(50) && wrong < 5) {
            switch (pick(10)) {
                case 0: sheetCall(x, y); break;
                case 1:
                case 2:
                case 3: urnCall(x, y, most); break;
                case 4: makeEven(x, y, most); break;
                default: chanceCall(x, y);
            }
        }
        for (int u = 0; u < y.w.urns.size() && hasCalls(18); u++) {
            look(x, y, u);
        }
    }

    public static void main(String[] args) {
        int runs = args.length > 0 ? Integer.parseInt(args[0]) : 6000;
        for (int number = 0; number < runs && wrong < 5; number++) {
            run(number);
            if (calls > MOST_CALLS) {
                wrong++;
                System.out.println("run " + number + " takes " + calls + " calls");
            }
        }
        System.out.println(wrong == 0 ? runs + " runs are as due" : wrong + " answers are not as due");
        if (wrong != 0) {
            System.exit(1);
        }
    }
}
