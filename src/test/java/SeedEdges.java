/** Promises 42 to 45: gusts, seed, samples. */
final class SeedEdges {
    private static final int MOST = Integer.MAX_VALUE;
    private static final int LEAST = Integer.MIN_VALUE;

    private final Edges edges;

    SeedEdges(Edges edges) {
        this.edges = edges;
    }

    void run() {
        edges.of(42, "it is good with c of ten cases (0 .. 10)", this::cases);
        edges.of(42, "then a throw is worth a (0 .. 999), else b (0 .. a)", this::worths);
        edges.of(42, "or waits for the next minute, that costs cost (0 .. 99)", this::costs);
        edges.of(42, "of n minutes (1 .. 10) in the last one one throws", this::minutes);
        edges.of(42, "as a number of 10 to n parts", this::parts);
        edges.of(42, "in how many of these minutes one waits if it is not good (as good: one throws)", this::waits);
        edges.of(42, "NONE: others", this::awaitNone);
        edges.of(43, "as many as a tenth (cut up), by WEIGHT (of equal ones the first SORT): how many", this::tenth);
        edges.of(43, "(of equal ones the first SORT)", this::firstOfEqualOnes);
        edges.of(43, "the mean of their WEIGHTS as a fraction", this::mean);
        edges.of(43, "NONE: another HEAP", this::heavyNone);
        edges.of(44, "g grains (1 .. 4) taken from a HEAP", this::samples);
        edges.of(44, "the chance that none of them is of a SORT that is no corn", this::chances);
        edges.of(44, "taken from a HEAP (of at most 2000) blindly", this::largest);
        edges.of(44, "-3: it has more than 2000", this::tooMany);
        edges.of(44, "-2: fewer than g", this::tooFew);
        edges.of(44, "NONE: others", this::sampleNone);
        edges.of(45, "The fewest grains (1 .. 4) to be taken", this::fewest);
        edges.of(45, "is at least sure (1 .. 100) in a hundred", this::sure);
        edges.of(45, "-2: four do not do (or there are fewer)", this::fourDoNot);
        edges.of(45, "-3, NONE likewise", this::grainsNone);
    }

    // ---- promise 42

    /** n, c, a, b, cost: the WORTH in parts, the minutes. */
    private void hopes(long[][] told) {
        ChaffInTheWind x = new ChaffInTheWind();
        for (long[] t : told) {
            String call = "await(" + t[0] + ", " + t[1] + ", " + t[2] + ", " + t[3] + ", " + t[4] + ")";
            edges.due(call, 0, x.await((int) t[0], (int) t[1], (int) t[2], (int) t[3], (int) t[4]));
            edges.row(call, x, t[5], t[6]);
        }
    }

    private void cases() {
        hopes(new long[][] {{1, 0, 9, 5, 1, 50, 0}, {1, 10, 9, 5, 1, 90, 0}, {1, 1, 9, 5, 1, 54, 0}, {2, 0, 9, 5, 0, 500, 0},
            {2, 10, 9, 5, 0, 900, 1}});
        for (int c : new int[] {-1, 11}) {
            edges.due("c " + c, -1, new ChaffInTheWind().await(1, c, 9, 5, 1));
        }
    }

    private void worths() {
        hopes(new long[][] {{1, 5, 0, 0, 0, 0, 0}, {1, 5, 999, 0, 0, 4995, 0}, {1, 5, 999, 999, 0, 9990, 0}, {2, 5, 999, 999, 0, 99900, 0}});
        int[][] others = {{-1, 0}, {-1, -1}, {1000, 0}, {9, -1}, {9, 10}};
        for (int[] o : others) {
            edges.due("a " + o[0] + " b " + o[1], -1, new ChaffInTheWind().await(1, 5, o[0], o[1], 0));
        }
    }

    /** With 5 of ten cases for 100 or 0 the last minute is worth 50, the one ahead of it the half of 100 and of 50 less cost. */
    private void costs() {
        hopes(new long[][] {{2, 5, 100, 0, 0, 7500, 1}, {2, 5, 100, 0, 1, 7450, 1}, {2, 5, 100, 0, 99, 5000, 0}, {1, 5, 100, 0, 99, 500, 0},
            {2, 10, 999, 0, 99, 99900, 1}});
        for (int cost : new int[] {-1, 100}) {
            edges.due("cost " + cost, -1, new ChaffInTheWind().await(1, 5, 9, 5, cost));
        }
    }

    private void minutes() {
        hopes(new long[][] {{1, 5, 100, 0, 0, 500, 0}, {2, 5, 100, 0, 0, 7500, 1}, {3, 5, 100, 0, 0, 87500, 2},
            {10, 5, 512, 0, 0, 5115000000000L, 9}});
        for (int n : new int[] {0, 11, -1}) {
            edges.due("n " + n, -1, new ChaffInTheWind().await(n, 5, 9, 5, 0));
        }
    }

    private void parts() {
        hopes(new long[][] {{1, 10, 999, 0, 99, 9990, 0}, {2, 10, 999, 0, 99, 99900, 1}, {9, 10, 999, 999, 99, 999000000000L, 0},
            {10, 10, 999, 999, 0, 9990000000000L, 0}, {10, 0, 999, 999, 0, 9990000000000L, 0}, {10, 0, 0, 0, 0, 0, 0}});
    }

    private void waits() {
        hopes(new long[][] {{2, 5, 100, 50, 25, 7500, 0}, {2, 5, 100, 50, 24, 7550, 1}, {2, 5, 100, 50, 26, 7500, 0},
            {2, 0, 9, 9, 0, 900, 0}, {3, 5, 100, 50, 24, 5 * 10000 + 5 * 5150, 2}});
    }

    private void awaitNone() {
        int[][] others = {{0, 5, 9, 5, 0}, {11, 5, 9, 5, 0}, {1, -1, 9, 5, 0}, {1, 11, 9, 5, 0}, {1, 5, -1, -1, 0}, {1, 5, 1000, 5, 0},
            {1, 5, 9, -1, 0}, {1, 5, 9, 10, 0}, {1, 5, 9, 5, -1}, {1, 5, 9, 5, 100}, {MOST, 5, 9, 5, 0}, {LEAST, 5, 9, 5, 0},
            {1, MOST, 9, 5, 0}, {1, 5, MOST, 5, 0}, {1, 5, 9, LEAST, 0}, {1, 5, 9, 5, MOST}, {1, 5, LEAST, LEAST, 0}};
        for (int[] o : others) {
            String call = "await(" + o[0] + ", " + o[1] + ", " + o[2] + ", " + o[3] + ", " + o[4] + ")";
            edges.refused(call, x -> x.await(o[0], o[1], o[2], o[3], o[4]));
        }
    }

    // ---- promise 43

    private void tenth() {
        int[][] due = {{0, 0}, {1, 1}, {9, 1}, {10, 1}, {11, 2}, {20, 2}, {21, 3}, {999, 100}};
        for (int[] d : due) {
            ChaffInTheWind x = Check.barn("c9,1,0*" + d[0]);
            edges.due("of " + d[0], d[1], x.heavy(0));
            edges.row("of " + d[0], x, d[0] == 0 ? 0 : 9, 1, d[0] == 0 ? 0 : 1);
        }
    }

    private void firstOfEqualOnes() {
        ChaffInTheWind x = Check.barn("w1,1,0*8;c10,1,0*1;h10,1,0*1;s10,1,0*1");
        edges.due("11", 2, x.heavy(0));
        edges.row("the first two of three", x, 10, 1, 2 + 4);
        x.sheet(0, 2, 4, 18, -8);
        edges.due("30", 3, x.heavy(0));
        edges.row("the first alone", x, 10, 1, 2);
        x.sheet(0, 2, 4, 0, 1);
        edges.due("6", 1, x.heavy(0));
        edges.row("one of it is enough", x, 10, 1, 2);
    }

    private void mean() {
        ChaffInTheWind x = Check.barn("c1,1,0*27;h99,1,0*1;w50,1,0*1;s2,1,0*1");
        edges.due("30", 3, x.heavy(0));
        edges.row("99, 50, 2 of three", x, 151, 3, 2 + 4 + 8);
        x.sheet(0, 2, 4, 17, -16);
        edges.due("18", 2, x.heavy(0));
        edges.row("99, 1", x, 50, 1, 1 + 2);
        edges.due("of nothing", 0, x.heavy(5));
        edges.row("of nothing", x, 0, 1, 0);
    }

    private void heavyNone() {
        int[] others = {6, -1, MOST, LEAST};
        for (int o : others) {
            edges.refused("heavy(" + o + ")", x -> x.heavy(o));
        }
    }

    // ---- promises 44, 45

    /** A HEAP 0 with so many grains of corn, and so many of weeds. */
    private static ChaffInTheWind sack(int corn, int weeds) {
        ChaffInTheWind x = Check.barn("c1,1,0*0;w1,1,0*0");
        for (int left = corn; left > 0; left -= 999) {
            x.sheet(1, 2, 1, Math.min(999, left), 0);
            x.mix(1, 0);
        }
        for (int left = weeds; left > 0; left -= 999) {
            x.sheet(1, 2, 2, 0, Math.min(999, left));
            x.mix(1, 0);
        }
        x.never();
        return x;
    }

    private void samples() {
        ChaffInTheWind x = sack(6, 4);
        long[][] due = {{3, 5}, {1, 3}, {1, 6}, {1, 14}};
        for (int g = 1; g <= 4; g++) {
            edges.due("g " + g, 0, x.sample(0, g));
            edges.row("g " + g, x, due[g - 1]);
        }
        edges.due("g 0", -1, x.sample(0, 0));
        edges.due("g 5", -1, x.sample(0, 5));
    }

    private void chances() {
        ChaffInTheWind x = sack(4, 0);
        x.sample(0, 4);
        edges.row("corn alone", x, 1, 1);
        x = sack(3, 1);
        x.sample(0, 4);
        edges.row("all of four", x, 0, 1);
        x.sample(0, 3);
        edges.row("three of four", x, 1, 4);
        x = sack(0, 9);
        x.sample(0, 1);
        edges.row("no corn", x, 0, 1);
        x = Check.barn("c1,1,0*1;h1,1,0*1;s1,1,0*1;c1,1,0*2;w1,1,0*1");
        x.sample(0, 2);
        edges.row("3 of corn, 3 of others", x, 1, 5);
    }

    private void largest() {
        ChaffInTheWind x = sack(1999, 1);
        edges.due("2000", 0, x.sample(0, 4));
        edges.row("2000", x, 499, 500);
        x = sack(1000, 1000);
        edges.due("2000", 0, x.sample(0, 4));
        edges.row("1000 of 2000", x, 497503, 7984006);
    }

    private void tooMany() {
        ChaffInTheWind x = sack(1999, 2);
        edges.due("2001", -3, x.sample(0, 1));
        edges.due("2001", -3, x.sample(0, 4));
        edges.row("the ROW stays", x, 0, 1);
        edges.due("2001 of corn", -3, sack(2001, 0).sample(0, 4));
        edges.due("2001 of weeds", -3, sack(0, 2001).sample(0, 4));
    }

    private void tooFew() {
        for (int g = 1; g <= 4; g++) {
            edges.due(g + " of one less", -2, sack(g - 1, 0).sample(0, g));
            edges.due(g + " of as many", 0, sack(g, 0).sample(0, g));
            int n = g;
            edges.unanswered(g + " of nothing", -2, x -> x.sample(3, n));
        }
    }

    private void sampleNone() {
        int[][] others = {{6, 1}, {-1, 1}, {0, 0}, {0, 5}, {3, 0}, {3, 5}, {MOST, 1}, {LEAST, 1}, {0, MOST}, {0, LEAST}};
        for (int[] o : others) {
            edges.refused("sample(" + o[0] + ", " + o[1] + ")", x -> x.sample(o[0], o[1]));
        }
        edges.due("of more than 2000", -1, sack(0, 2001).sample(0, 5));
    }

    /** Of one weed in four grains g have a chance of g in four to find it. */
    private void fewest() {
        ChaffInTheWind x = sack(3, 1);
        int[][] due = {{1, 1}, {25, 1}, {26, 2}, {50, 2}, {51, 3}, {75, 3}, {76, 4}, {100, 4}};
        for (int[] d : due) {
            edges.due("sure " + d[0], d[1], x.grains(0, d[0]));
        }
    }

    private void sure() {
        edges.due("one in 100", 1, sack(99, 1).grains(0, 1));
        edges.due("one in 101", 2, sack(100, 1).grains(0, 1));
        edges.due("one in 400", 4, sack(399, 1).grains(0, 1));
        edges.due("one in 401", -2, sack(400, 1).grains(0, 1));
        edges.due("100", 2, sack(1, 9).grains(0, 100));
        edges.due("99", 2, sack(1, 9).grains(0, 99));
        edges.due("90", 1, sack(1, 9).grains(0, 90));
        edges.due("0", -1, sack(1, 9).grains(0, 0));
        edges.due("101", -1, sack(1, 9).grains(0, 101));
        edges.due("nearly all of 2000", 2, sack(1, 1999).grains(0, 100));
        edges.due("one of 2000", -2, sack(1999, 1).grains(0, 1));
    }

    private void fourDoNot() {
        edges.due("four of five", -2, sack(4, 1).grains(0, 81));
        edges.due("four of five do", 4, sack(4, 1).grains(0, 80));
        edges.due("corn alone", -2, sack(9, 0).grains(0, 1));
        edges.due("three, all of corn", -2, sack(3, 0).grains(0, 1));
        edges.due("two, one of them a weed", 2, sack(1, 1).grains(0, 100));
        edges.due("one, and it is a weed", 1, sack(0, 1).grains(0, 100));
        edges.unanswered("none", -2, x -> x.grains(3, 1));
    }

    private void grainsNone() {
        int[][] others = {{6, 1}, {-1, 1}, {0, 0}, {0, 101}, {3, 0}, {3, 101}, {MOST, 1}, {LEAST, 1}, {0, MOST}, {0, LEAST}};
        for (int[] o : others) {
            edges.refused("grains(" + o[0] + ", " + o[1] + ")", x -> x.grains(o[0], o[1]));
        }
        edges.due("2000", 1, sack(0, 2000).grains(0, 100));
        edges.due("2001", -3, sack(0, 2001).grains(0, 100));
        edges.due("2001 of corn", -3, sack(2001, 0).grains(0, 1));
        edges.due("of more than 2000", -1, sack(0, 2001).grains(0, 101));
    }
}
