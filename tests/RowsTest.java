import java.math.BigInteger;
import java.util.Arrays;

/**
 * Small EVEN URNS whose rows of DRAWS are all followed, one by one, as the document tells a row; what they
 * come to is held against times(), left(), stuck(), mean(), told(), chance(). The choice of URNS is always the same.
 */
public final class RowsTest {
    private static long chooser = 20261119;
    private static int asked = 0;
    private static int wrong = 0;

    private final int colours;
    private final int[] balls;
    private final int[][] table;
    private final GrowingUrns x = new GrowingUrns();
    private int draws;
    private BigInteger[] times, left, mean;
    private BigInteger stuck;
    // By DRAW, its COLOUR, a later DRAW, its COLOUR.
    private BigInteger[][][][] told;
    private BigInteger below;
    private int calls = 0;

    private RowsTest(int number) {
        colours = 2 + number % 3;
        balls = new int[colours];
        table = new int[colours][colours];
    }

    private static int pick(int n) {
        chooser = chooser * 6364136223846793005L + 1442695040888963407L;
        return (int) ((chooser >>> 33) % n);
    }

    private static int within(int v, int most) {
        return Math.max(-most, Math.min(most, v));
    }

    /** Near 0 or near 200, so that many rows are STUCK; false: the table did not come out EVEN. */
    private boolean fill() {
        boolean high = pick(3) == 0;
        int s = pick(9) - 5;
        x.urn(colours);
        for (int c = 0; c < colours; c++) {
            balls[c] = high && pick(2) == 0 ? 200 - pick(4) : pick(6);
            x.put(0, c, balls[c]);
            int rest = s;
            for (int d = 0; d < colours; d++) {
                table[c][d] = d == colours - 1 ? rest : within(pick(7) - 3, 9);
                rest -= table[c][d];
                if (x.add(0, c, d, table[c][d]) == -100) {
                    return false;
                }
            }
        }
        calls = 60;
        return Arrays.stream(balls).sum() > 0;
    }

    private void follow(int n) {
        draws = n;
        times = zeros(14);
        left = zeros(402);
        mean = zeros(4);
        stuck = BigInteger.ZERO;
        told = new BigInteger[n][colours][n][];
        for (int i = 0; i < n; i++) {
            for (int c = 0; c < colours; c++) {
                for (int j = 0; j < n; j++) {
                    told[i][c][j] = zeros(colours);
                }
            }
        }
        below = BigInteger.ONE;
        int s = Arrays.stream(table[0]).sum();
        for (int i = 0; i < n; i++) {
            int factor = Arrays.stream(balls).sum() + i * s;
            below = factor > 0 ? below.multiply(BigInteger.valueOf(factor)) : below;
        }
    }

    private static BigInteger[] zeros(int n) {
        BigInteger[] row = new BigInteger[n];
        Arrays.fill(row, BigInteger.ZERO);
        return row;
    }

    /** Goes on from a row's DRAWS; over: the product of all BALLS ahead of each of them. */
    private void goOn(int[] row, int at, int[] some, BigInteger weight, BigInteger over, int eye) {
        if (at == draws) {
            endThrough(row, some, weight, eye);
            return;
        }
        int all = Arrays.stream(some).sum();
        if (all == 0) {
            stuck = stuck.add(weight.multiply(below).divide(over));
            return;
        }
        BigInteger by = over.multiply(BigInteger.valueOf(all));
        for (int c = 0; c < colours; c++) {
            BigInteger next = weight.multiply(BigInteger.valueOf(some[c]));
            if (next.signum() == 0) {
                continue;
            }
            int[] then = some.clone();
            boolean goes = true;
            for (int d = 0; d < colours; d++) {
                then[d] += table[c][d];
                goes &= then[d] >= 0 && then[d] <= 200;
            }
            if (goes) {
                row[at] = c;
                goOn(row, at + 1, then, next, by, eye);
            } else {
                stuck = stuck.add(next.multiply(below).divide(by));
            }
        }
    }

    private static int often(int[] row, int c) {
        int k = 0;
        for (int drawn : row) {
            k += drawn == c ? 1 : 0;
        }
        return k;
    }

    private void endThrough(int[] row, int[] some, BigInteger weight, int eye) {
        int k = often(row, eye);
        times[k] = times[k].add(weight);
        left[some[eye]] = left[some[eye]].add(weight);
        for (int m = 1; m <= 3; m++) {
            mean[m] = mean[m].add(weight.multiply(BigInteger.valueOf(some[eye]).pow(m)));
        }
        for (int i = 0; i < draws; i++) {
            for (int j = 0; j < draws; j++) {
                told[i][row[i]][j][row[j]] = told[i][row[i]][j][row[j]].add(weight);
            }
        }
    }

    private void due(String what, int answer, BigInteger above, BigInteger by) {
        BigInteger common = above.gcd(by);
        BigInteger[] parts = above.divide(common).divideAndRemainder(by.divide(common));
        asked++;
        calls += 4;
        if (answer != 0 || x.part(0) != parts[0].longValue() || x.part(1) != parts[1].longValue()
            || x.part(2) != by.divide(common).longValue()) {
            wrong++;
            System.out.println(what + " of " + Arrays.toString(balls) + " " + Arrays.deepToString(table) + " answered "
                + answer + ", " + x.part(0) + " " + x.part(1) + " " + x.part(2) + ", due is " + above + " by " + by);
        }
    }

    private void dueBig(String what, int answer) {
        asked++;
        calls++;
        if (answer != -6) {
            wrong++;
            System.out.println(what + " answered " + answer + ", due is BIG");
        }
    }

    private void askCounts(int eye) {
        String n = " after " + draws + " of " + eye;
        for (int k = 0; k <= draws + 1; k++) {
            due("times " + k + n, x.times(0, draws, eye, k), times[k], below);
        }
        due("stuck" + n, x.stuck(0, draws), stuck, below);
        for (int m = 1; m <= 3; m++) {
            due("mean " + m + n, x.mean(0, draws, eye, m), mean[m], below);
        }
        for (int i = 0; i < 12; i++) {
            int k = pick(6) == 0 ? pick(400) : Math.min(200, Math.max(0, balls[eye] + pick(9) - 4));
            due("left " + k + n, x.left(0, draws, eye, k), left[k], below);
        }
    }

    private void askTold() {
        int j = draws;
        for (int i = 1; i < j; i++) {
            for (int c = 0; c < colours; c++) {
                int d = pick(colours);
                BigInteger known = BigInteger.ZERO;
                for (int e = 0; e < colours; e++) {
                    known = known.add(told[i - 1][e][j - 1][d]);
                }
                int answer = x.told(0, i, c, j, d);
                if (known.signum() > 0) {
                    due("told " + i + " " + c + " " + j + " " + d, answer, told[i - 1][c][j - 1][d], known);
                } else if (answer != -2) {
                    wrong++;
                    System.out.println("told " + i + " " + c + " " + j + " " + d + " answered " + answer + ", due is NO");
                }
                calls++;
            }
        }
    }

    private void askChance(int n) {
        int code = 0;
        int[] some = balls.clone();
        BigInteger above = BigInteger.ONE;
        BigInteger by = BigInteger.ONE;
        for (int i = 0; i < n; i++) {
            int c = pick(colours);
            code += c << 2 * i;
            above = above.multiply(BigInteger.valueOf(some[c]));
            by = by.multiply(BigInteger.valueOf(Math.max(1, Arrays.stream(some).sum())));
            for (int d = 0; d < colours && above.signum() > 0; d++) {
                some[d] += table[c][d];
            }
            boolean goes = Arrays.stream(some).allMatch(b -> b >= 0 && b <= 200);
            above = goes ? above : BigInteger.ZERO;
        }
        due("chance of " + code + ", " + n + " DRAWS,", x.chance(0, n, code), above, by);
    }

    private void ask(int n) {
        follow(n);
        int eye = pick(colours);
        if (below.compareTo(BigInteger.TEN.pow(16)) > 0) {
            dueBig("times", x.times(0, n, eye, 0));
            dueBig("left", x.left(0, n, eye, 0));
            dueBig("stuck", x.stuck(0, n));
            dueBig("mean", x.mean(0, n, eye, 1));
            return;
        }
        goOn(new int[n], 0, balls, BigInteger.ONE, BigInteger.ONE, eye);
        askCounts(eye);
        askTold();
        for (int i = 0; i < 4; i++) {
            askChance(n);
        }
    }

    public static void main(String[] args) {
        int urns = args.length > 0 ? Integer.parseInt(args[0]) : 1500;
        for (int number = 0; number < urns && wrong < 5; number++) {
            RowsTest test = new RowsTest(number);
            if (test.fill()) {
                int most = test.colours == 2 ? 9 : test.colours == 3 ? 6 : 5;
                while (test.calls < 350) {
                    test.ask(pick(most + 1));
                }
            }
        }
        System.out.println(wrong == 0 ? asked + " answers are as due" : wrong + " answers are not as due");
        if (wrong != 0) {
            System.exit(1);
        }
    }
}
