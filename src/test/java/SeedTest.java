import java.math.BigInteger;

/** Promises 42 to 45: gusts, seed, samples. */
public final class SeedTest {
    private static final Check CHECK = new Check("SeedTest");

    public static void main(String[] args) {
        await();
        heavy();
        sample();
        grains();
        CHECK.close();
    }

    private static void await() {
        ChaffInTheWind x = new ChaffInTheWind();
        long[][] due = {
            {1, 3, 100, 10, 5, 370, 0}, {2, 3, 100, 10, 5, 5240, 1}, {3, 3, 100, 10, 5, 63180, 2},
            {2, 0, 100, 50, 0, 5000, 0}, {2, 3, 100, 10, 27, 3700, 0}, {2, 3, 100, 10, 26, 3000 + 770, 1},
            {1, 0, 0, 0, 99, 0, 0}, {2, 10, 5, 0, 4, 500, 1}, {2, 10, 5, 0, 5, 500, 0}, {2, 10, 5, 0, 99, 500, 0},
            {10, 10, 999, 999, 0, 9990000000000L, 0}, {10, 10, 999, 0, 0, 9990000000000L, 9},
            {3, 5, 10, 0, 4, 5750, 2}, {2, 3, 100, 10, 50, 3700, 0}, {3, 3, 100, 10, 50, 37000, 0}};
        for (long[] d : due) {
            String call = "42 " + d[0] + " " + d[1] + " " + d[2] + " " + d[3] + " " + d[4];
            CHECK.due(call, 0, x.await((int) d[0], (int) d[1], (int) d[2], (int) d[3], (int) d[4]));
            CHECK.row(call, x, d[5], d[6]);
        }
        x.await(1, 1, 1, 1, 1);
        int[][] wrong = {{0, 1, 1, 1, 1}, {11, 1, 1, 1, 1}, {1, -1, 1, 1, 1}, {1, 11, 1, 1, 1}, {1, 1, -1, -1, 1}, {1, 1, 1000, 1, 1},
            {1, 1, 1, -1, 1}, {1, 1, 1, 2, 1}, {1, 1, 1, 1, -1}, {1, 1, 1, 1, 100}};
        for (int[] w : wrong) {
            CHECK.due("42 NONE", -1, x.await(w[0], w[1], w[2], w[3], w[4]));
        }
        CHECK.row("42 the ROW stays", x, 10, 0);
    }

    private static void heavy() {
        ChaffInTheWind x = Check.barn("c10,1,0*2;s50,1,0*1;w10,1,0*18;h49,1,0*0");
        CHECK.due("43 cut up", 3, x.heavy(0));
        CHECK.row("43 the first SORT", x, 70, 3, 3);
        x.sheet(0, 2, 4, 10, -10);
        CHECK.due("43 ten", 1, x.heavy(0));
        CHECK.row("43 ten", x, 10, 1, 1);
        x.sheet(0, 2, 4, 9, -7);
        CHECK.due("43 eleven", 2, x.heavy(0));
        CHECK.row("43 eleven", x, 50, 1, 2);
        x.sheet(0, 2, 4, 0, 10);
        CHECK.due("43 sixty", 6, x.heavy(0));
        CHECK.row("43 sixty", x, 50, 1, 2);
        x.sheet(0, 2, 4, 199, -198);
        CHECK.due("43 a whole mean", 20, x.heavy(0));
        CHECK.row("43 a whole mean", x, 12, 1, 3);
        x.sheet(0, 2, 4, 53, -52);
        CHECK.due("43 lowest terms", 6, x.heavy(0));
        CHECK.row("43 lowest terms", x, 50, 3, 3);
        CHECK.due("43 nothing", 0, x.heavy(1));
        CHECK.row("43 nothing", x, 0, 1, 0);
        CHECK.due("43 NONE", -1, x.heavy(6));
        CHECK.due("43 NONE", -1, x.heavy(-1));
        CHECK.row("43 the ROW stays", x, 0, 1, 0);
    }

    private static void sample() {
        ChaffInTheWind x = Check.barn("c1,1,0*5;w1,1,0*7;c2,1,0*3");
        long[][] due = {{8, 15}, {4, 15}, {8, 65}, {2, 39}};
        for (int g = 1; g <= 4; g++) {
            CHECK.due("44", 0, x.sample(0, g));
            CHECK.row("44 " + g, x, due[g - 1]);
        }
        x.sheet(1, 2, 3, 3, -3);
        x.sample(1, 3);
        CHECK.row("44 corn alone", x, 1, 1);
        CHECK.due("44 -2", -2, x.sample(1, 4));
        x.sheet(1, 2, 3, 2, 2);
        x.sheet(1, 2, 2, 3, 6);
        x.sample(1, 4);
        CHECK.row("44 less corn", x, 0, 1);
        CHECK.due("44 -2 of nothing", -2, x.sample(2, 1));
        CHECK.due("44 g", -1, x.sample(0, 0));
        CHECK.due("44 g", -1, x.sample(0, 5));
        CHECK.due("44 HEAP", -1, x.sample(6, 1));
        CHECK.due("44 HEAP", -1, x.sample(-1, 1));
        CHECK.row("44 the ROW stays", x, 0, 1);
        ChaffInTheWind y = Check.barn("c1,1,0*999;w1,1,0*999;c2,1,0*2");
        CHECK.due("44 2000", 0, y.sample(0, 4));
        CHECK.row("44 2000", y, chance(1001, 2000, 4));
        y.sheet(0, 2, 3, 999, -997);
        y.sheet(1, 2, 3, 999, 0);
        y.mix(1, 0);
        CHECK.due("44 more", -3, y.sample(0, 4));
        CHECK.due("44 NONE first", -1, y.sample(0, 5));
        y.sheet(0, 2, 3, 999, 0);
        CHECK.due("44 more", -3, y.sample(0, 1));
        CHECK.row("44 the ROW stays", y, chance(1001, 2000, 4));
        y.sheet(0, 2, 3, 667, 0);
        CHECK.due("44 2001", -3, y.sample(0, 1));
    }

    private static void grains() {
        ChaffInTheWind x = Check.barn("c1,1,0*5;w1,1,0*7;c2,1,0*3");
        x.never();
        int[][] due = {{1, 1}, {46, 1}, {47, 2}, {73, 2}, {74, 3}, {87, 3}, {88, 4}, {94, 4}, {95, -2}, {100, -2}};
        for (int[] d : due) {
            CHECK.due("45 sure " + d[0], d[1], x.grains(0, d[0]));
        }
        int[][] heaps = {{1, 1, 50, 1}, {1, 1, 51, 2}, {1, 1, 100, 2}, {2, 1, 100, 3}, {3, 1, 100, 4}, {4, 1, 100, -2}, {4, 1, 80, 4},
            {1, 0, 1, -2}, {0, 0, 1, -2}, {0, 1, 100, 1}, {999, 0, 1, -2}, {0, 999, 100, 1}, {3, 9, 99, 3}, {99, 1, 1, 1}, {100, 1, 1, 2}};
        for (int[] h : heaps) {
            x.sheet(1, 2, 2, h[0], h[1] - h[0]);
            CHECK.due("45 " + h[0] + " and " + h[1] + " sure " + h[2], h[3], x.grains(1, h[2]));
        }
        x.sheet(2, 2, 3, 667, 0);
        CHECK.due("45 -3", -3, x.grains(2, 1));
        CHECK.due("45 NONE first", -1, x.grains(2, 0));
        CHECK.due("45 NONE first", -1, x.grains(2, 101));
        CHECK.due("45 NONE", -1, x.grains(6, 1));
        CHECK.due("45 NONE", -1, x.grains(-1, 1));
        ChaffInTheWind y = Check.barn("c1,1,0*999;w1,1,0*999;c2,1,0*2");
        CHECK.due("45 2000", 2, y.grains(0, 50));
        x.sheet(2, 2, 3, 668, -2);
        x.sheet(3, 2, 3, 667, -1);
        CHECK.due("45 1998", 1, x.grains(3, 33));
        CHECK.due("45 1998", 2, x.grains(3, 34));
    }

    private static long[] chance(long corn, long all, int g) {
        BigInteger upper = BigInteger.ONE;
        BigInteger lower = BigInteger.ONE;
        for (int i = 0; i < g; i++) {
            upper = upper.multiply(BigInteger.valueOf(corn - i));
            lower = lower.multiply(BigInteger.valueOf(all - i));
        }
        BigInteger common = upper.gcd(lower);
        return new long[] {upper.divide(common).longValueExact(), lower.divide(common).longValueExact()};
    }
}
