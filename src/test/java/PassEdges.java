/** Promises 35 to 41: passes. */
final class PassEdges {
    private static final int MOST = Integer.MAX_VALUE;
    private static final int LEAST = Integer.MIN_VALUE;

    private final Edges edges;

    PassEdges(Edges edges) {
        this.edges = edges;
    }

    void run() {
        edges.of(35, "A FAN more: its number among PASSES.", this::fansMore);
        edges.of(35, "Refused: others, 7.", this::blowRefused);
        edges.of(36, "(over: those not less in SIZE stay): its number.", this::sievesMore);
        edges.of(36, "Refused: others, 7.", this::holeRefused);
        edges.of(37, "SORTS (bits) that a PASS lets stay.", this::stays);
        edges.of(37, "NONE: none such.", this::staysNone);
        edges.of(38, "has WEIGHT of corn in all of it of at least clean (0 .. 100) in a hundred", this::clean);
        edges.of(38, "keeps at least kept (0 .. 100) in a hundred of its corn's", this::kept);
        edges.of(38, "The fewest PASSES by which a HEAP", this::fewest);
        edges.of(38, "of as few the most grains, then the least bits", this::ofAsFew);
        edges.of(38, "-2: all do not do", this::allDoNot);
        edges.of(38, "NONE: others, a HEAP without corn", this::orderNone);
        edges.of(39, "without which, the others of it all the same, it would not do", this::needed);
        edges.of(39, "-2, NONE likewise", this::neededNone);
        edges.of(40, "without which one alone, the others as ever, some stone stays that would go else", this::strokesAlone);
        edges.of(40, "STROKES by which corn goes (bits; of each SORT the first one)", this::strokesOfCorn);
        edges.of(40, "stones left by all", this::stonesLeft);
        edges.of(40, "NONE: another HEAP. Nothing changes.", this::strokesNone);
        edges.of(41, "the PASS with the fewest SORTS that are otherwise (of all SORTS)", this::otherwise);
        edges.of(41, "of equal ones the first: it; the ROW: how many are", this::findOfEqualOnes);
        edges.of(41, "-2: no PASSES", this::noPasses);
        edges.of(41, "NONE: bits of none such, none", this::findNone);
    }

    // ---- promises 35 to 37

    private void fansMore() {
        ChaffInTheWind x = Check.barn("c9,1,0*1;y4");
        int[][] fans = {{-60, 0, 3}, {60, 3, 3}, {0, 0, 0}, {0, 2, 3}};
        for (int i = 0; i < 4; i++) {
            edges.due("FAN " + i, i, x.blow(fans[i][0], fans[i][1], fans[i][2]));
        }
        for (int i = 4; i < 7; i++) {
            edges.due("FAN " + i, i, x.blow(0, 0, 0));
        }
        edges.due("all", 7, x.count(4));
    }

    private void blowRefused() {
        int[][] others = {{61, 0, 1}, {-61, 0, 1}, {0, -1, 1}, {0, 0, 6}, {0, 6, 6}, {0, 2, 1}, {MOST, 0, 1}, {LEAST, 0, 1}, {0, LEAST, 0},
            {0, 0, MOST}};
        for (int[] o : others) {
            edges.refused("blow(" + o[0] + ", " + o[1] + ", " + o[2] + ")", x -> x.blow(o[0], o[1], o[2]));
        }
        ChaffInTheWind y = Check.barn("c9,1,0*1");
        for (int i = 0; i < 7; i++) {
            y.blow(0, 0, 0);
        }
        edges.due("7", -1, y.blow(0, 0, 11));
        edges.due("there are 7", 7, y.count(4));
        edges.due("the last is as it was", 1, y.stays(6));
    }

    private void sievesMore() {
        ChaffInTheWind x = Check.barn("c9,29,0*1;c9,30,0*1;c9,31,0*1");
        edges.due("over", 0, x.hole(30, true));
        edges.due("under", 1, x.hole(30, false));
        edges.due("30 and more", 2 + 4, x.stays(0));
        edges.due("less than 30", 1, x.stays(1));
        for (int i = 2; i < 7; i++) {
            edges.due("SIEVE " + i, i, x.hole(i % 2 == 0 ? 1 : 60, true));
        }
        edges.due("1", 7, x.stays(2));
        edges.due("60", 0, x.stays(3));
    }

    private void holeRefused() {
        int[] others = {0, 61, -1, MOST, LEAST};
        for (int o : others) {
            edges.refused("hole(" + o + ", true)", x -> x.hole(o, true));
            edges.refused("hole(" + o + ", false)", x -> x.hole(o, false));
        }
        ChaffInTheWind y = Check.barn("c9,1,0*1");
        for (int i = 0; i < 7; i++) {
            y.hole(1, true);
        }
        edges.due("7", -1, y.hole(60, true));
        edges.due("there are 7", 7, y.count(4));
        edges.due("the last is as it was", 1, y.stays(6));
    }

    private void stays() {
        ChaffInTheWind x = Barns.low(0);
        x.blow(15, 0, 0);
        x.blow(16, 0, 0);
        x.blow(16, 1, 11);
        x.blow(-60, 0, 0);
        x.blow(60, 3, 3);
        int[] due = {3, 1, 2, 3, 2};
        for (int i = 0; i < due.length; i++) {
            edges.due("PASS " + i, due[i], x.stays(i));
        }
        Check.text(x, "s9,1,0*0;".repeat(7) + "s9,1,0*0").barn();
        edges.due("ten SORTS", 1023, x.stays(0));
        edges.due("all but one", 1021, x.stays(1));
    }

    private void staysNone() {
        int[] others = {2, -1, 7, MOST, LEAST};
        for (int o : others) {
            edges.refused("stays(" + o + ")", x -> x.stays(o));
        }
        edges.due("no PASSES", -1, Barns.low(0).stays(0));
    }

    // ---- promises 38, 39

    /** 40 of corn, 60 of weeds in a hundred by WEIGHT; PASS 0 lets the corn alone stay. */
    private static ChaffInTheWind fortyInAHundred() {
        ChaffInTheWind x = Check.barn("c40,20,0*1;w1,10,0*60");
        x.hole(15, true);
        return x;
    }

    private void clean() {
        ChaffInTheWind x = fortyInAHundred();
        int[][] due = {{0, 0, 0}, {40, 0, 0}, {41, 1, 1}, {100, 1, 1}};
        for (int[] d : due) {
            edges.due("clean " + d[0], d[1], x.order(0, d[0], 100));
            edges.row("clean " + d[0], x, d[2]);
        }
        x = Check.barn("c99,20,0*999;c99,20,0*999;w1,20,0*1");
        edges.due("a grain of weeds in 100", -2, x.order(0, 100, 0));
        edges.due("a grain of weeds in 99", 0, x.order(0, 99, 100));
    }

    private void kept() {
        ChaffInTheWind x = Check.barn("c40,20,0*1;c60,10,0*1;w9,9,0*60");
        x.hole(15, true);
        int[][] due = {{0, 1}, {40, 1}, {41, -2}, {100, -2}};
        for (int[] d : due) {
            edges.due("kept " + d[0], d[1], x.order(0, 100, d[0]));
        }
        x.hole(10, true);
        edges.due("all is kept", 1, x.order(0, 100, 100));
        edges.row("all is kept", x, 2);
        x = Check.barn("c20,20,0*999;c20,40,0*1;w9,50,0*1");
        x.hole(35, false);
        edges.due("not a grain less", -2, x.order(0, 100, 100));
        edges.due("99", 1, x.order(0, 100, 99));
    }

    private void fewest() {
        ChaffInTheWind x = Check.barn("w1,5,0*9;c40,20,0*1;w1,30,0*9");
        x.hole(15, true);
        x.hole(25, false);
        edges.due("none", 0, x.order(0, 68, 100));
        edges.row("none", x, 0);
        edges.due("one", 1, x.order(0, 81, 100));
        edges.due("two", 2, x.order(0, 82, 100));
        edges.row("two", x, 3);
        for (int i = 2; i < 6; i++) {
            x.hole(1, true);
        }
        x.blow(0, 0, 0);
        edges.due("seven PASSES", 2, x.order(0, 100, 100));
        edges.row("seven PASSES", x, 3);
        x = Check.barn("w1,5,0*9;c40,20,0*1;w1,30,0*9");
        for (int i = 0; i < 5; i++) {
            x.hole(1, true);
        }
        x.hole(15, true);
        x.hole(25, false);
        edges.due("the last two", 2, x.order(0, 100, 100));
        edges.row("the last two", x, 32 + 64);
        x = Check.barn("w1,5,4*9;c40,20,0*1;w1,30,4*9");
        x.set(0, 1);
        x.hole(15, true);
        x.hole(25, false);
        edges.due("two do", 2, x.order(0, 100, 100));
        x.blow(60, 0, 0);
        edges.due("one that comes behind them does", 1, x.order(0, 100, 100));
        edges.row("one that comes behind them does", x, 4);
    }

    private void ofAsFew() {
        ChaffInTheWind x = Check.barn("w1,5,0*9;c40,20,0*1;w1,30,0*8");
        x.hole(15, true);
        x.hole(25, false);
        x.hole(25, false);
        edges.due("9 of weeds stay", 1, x.order(0, 81, 100));
        edges.row("9 of weeds stay, the least bits", x, 2);
        x.hole(15, true);
        edges.due("any one of each", 2, x.order(0, 100, 100));
        edges.row("the least bits", x, 3);
        x = Check.barn("w1,5,0*8;c40,20,0*1;w1,30,0*9");
        x.hole(25, false);
        x.hole(15, true);
        x.hole(15, true);
        edges.due("9 of weeds stay", 1, x.order(0, 81, 100));
        edges.row("9 of weeds stay, the least bits", x, 2);
    }

    private void allDoNot() {
        ChaffInTheWind x = fortyInAHundred();
        edges.due("it does", 1, x.order(0, 41, 100));
        x = Check.barn("c40,20,0*1;w1,20,0*60");
        x.never();
        x.lands(0, 0);
        edges.due("without PASSES", -2, x.order(0, 41, 0));
        edges.due("without PASSES it is so already", 0, x.order(0, 40, 100));
        x.hole(20, true);
        edges.due("nothing goes", -2, x.order(0, 41, 0));
        x.hole(20, false);
        edges.due("all goes", -2, x.order(0, 41, 1));
        edges.row("the ROW stays", x, 0);
        edges.unanswered("another one", -2, y -> y.order(1, 100, 100));
    }

    private void orderNone() {
        int[][] others = {{6, 0, 0}, {-1, 0, 0}, {1, 101, 0}, {1, -1, 0}, {1, 0, 101}, {1, 0, -1}, {3, 0, 0}, {3, 101, 0}, {MOST, 0, 0},
            {LEAST, 0, 0}, {1, MOST, 0}, {1, 0, LEAST}};
        for (int[] o : others) {
            edges.refused("order(" + o[0] + ", " + o[1] + ", " + o[2] + ")", x -> x.order(o[0], o[1], o[2]));
        }
        ChaffInTheWind y = Check.barn("c9,1,0*0;w9,1,0*5");
        edges.due("weeds alone", -1, y.order(0, 0, 0));
        y.sheet(0, 2, 2, 1, 0);
        edges.due("one grain of corn", 0, y.order(0, 0, 0));
    }

    private void needed() {
        ChaffInTheWind x = Check.barn("w1,5,0*9;c40,20,0*1;w1,30,0*8");
        x.hole(1, true);
        x.hole(15, true);
        x.hole(25, false);
        edges.due("none", 0, x.needed(0, 0, 100));
        edges.due("one", 4, x.needed(0, 81, 100));
        edges.due("two", 2 + 4, x.needed(0, 100, 100));
        edges.due("no ROW is told", 0, x.count(8));
        x = fortyInAHundred();
        edges.due("the first", 1, x.needed(0, 41, 100));
    }

    private void neededNone() {
        int[][] others = {{6, 0, 0}, {-1, 0, 0}, {1, 101, 0}, {1, -1, 0}, {1, 0, 101}, {1, 0, -1}, {3, 0, 0}, {3, 101, 0}, {MOST, 0, 0},
            {1, LEAST, 0}};
        for (int[] o : others) {
            edges.refused("needed(" + o[0] + ", " + o[1] + ", " + o[2] + ")", x -> x.needed(o[0], o[1], o[2]));
        }
        edges.unanswered("all do not do", -2, x -> x.needed(1, 100, 100));
        edges.due("without PASSES", -2, Check.barn("c40,20,0*1;w1,20,0*60").needed(0, 41, 0));
    }

    // ---- promise 40

    private void strokesAlone() {
        ChaffInTheWind x = Check.barn("s1,1,0*5;s9,1,0*5;w4,1,0*5;c5,1,0*5");
        Object[][] told = {{"k=w", 1 + 256}, {"k>8", 256}, {"k<2", 1}, {"k>7", 0}, {"(k=w)+(k=1)", 1}, {"1", 0}, {"0", 0}, {"i=2", 0},
            {"(i=3)*(k=5)", 16}, {"k-w", 0}, {"(w=9)*(k-8)*(k-9)", 0}};
        for (Object[] t : told) {
            edges.due("says " + t[0], 0, Check.says(x, 3, (String) t[0]));
            edges.due((String) t[0], (Integer) t[1], x.strokes(0));
        }
        Check.says(x, 3, "k=w");
        x.sheet(1, 2, 2, 0, 1);
        edges.due("SORTS of which it has none do not count", 256, x.strokes(1));
        edges.due("of nothing", 0, x.strokes(2));
        edges.row("of nothing", x, 0, 0);
    }

    private void strokesOfCorn() {
        ChaffInTheWind x = Check.barn("c1,1,0*5;c9,1,0*5;s5,1,0*5;c3,1,0*0");
        Object[][] told = {{"k=w", 1 + 256}, {"k>4", 16}, {"1", 1}, {"k>w", 2}, {"(i=0)*(k>8)", 256}, {"0", 0}, {"i=3", 0}};
        for (Object[] t : told) {
            edges.due("says " + t[0], 0, Check.says(x, 3, (String) t[0]));
            x.strokes(0);
            edges.due((String) t[0], (Integer) t[1], x.row(0));
        }
    }

    private void stonesLeft() {
        ChaffInTheWind x = Check.barn("s1,1,0*5;s9,1,0*7;w9,1,0*9;c9,1,0*9");
        Object[][] told = {{"k=w", 0}, {"w=1", 7}, {"w=9", 5}, {"0", 12}, {"k>9", 12}, {"k=0", 12}, {"i<3", 12}, {"(w=9)*(k=9)", 5}};
        for (Object[] t : told) {
            edges.due("says " + t[0], 0, Check.says(x, 3, (String) t[0]));
            x.strokes(0);
            edges.due((String) t[0], (Integer) t[1], x.row(1));
        }
        Check.says(x, 3, "");
        x.strokes(0);
        edges.row("without a LAW", x, 0, 12);
    }

    private void strokesNone() {
        int[] others = {6, -1, MOST, LEAST};
        for (int o : others) {
            edges.refused("strokes(" + o + ")", x -> x.strokes(o));
        }
        ChaffInTheWind x = Barns.busy();
        edges.due("the second", 2, x.strokes(0));
        x.lands(1, 5);
        edges.same("nothing changes", Barns.busy(), x);
    }

    // ---- promise 41

    private void otherwise() {
        ChaffInTheWind x = Check.barn("c9,10,0*5;h9,20,0*5;w9,30,0*0;s9,40,0*5");
        x.hole(15, true);
        x.hole(25, true);
        x.hole(35, true);
        int[][] due = {{1, 0, 0}, {3, 1, 0}, {7, 2, 0}, {15, 2, 1}, {8, 0, 2}, {4, 0, 2}, {6, 2, 1}};
        for (int[] d : due) {
            edges.due("a find of " + d[0], d[1], x.find(d[0]));
            edges.row("a find of " + d[0], x, d[2]);
        }
    }

    private void findOfEqualOnes() {
        ChaffInTheWind x = Check.barn("c9,10,0*5;h9,20,0*5;w9,30,0*5");
        x.hole(25, true);
        x.hole(15, true);
        x.hole(15, true);
        edges.due("the second and the third", 1, x.find(1));
        edges.row("the second and the third", x, 0);
        edges.due("each has one", 0, x.find(2));
        edges.row("each has one", x, 1);
    }

    private void noPasses() {
        ChaffInTheWind x = Check.barn("c9,10,0*5");
        x.lands(0, 0);
        edges.due("none", -2, x.find(1));
        edges.row("the ROW stays", x, 10, 0, 20);
        x.hole(1, true);
        edges.due("one", 0, x.find(1));
        edges.row("one", x, 1);
    }

    private void findNone() {
        int[] others = {0, 16, 17, -1, 1 << 10, MOST, LEAST};
        for (int o : others) {
            edges.refused("find(" + o + ")", x -> x.find(o));
        }
        edges.due("all there are", 1, Barns.busy().find(15));
        ChaffInTheWind x = Check.barn("c9,10,0*5");
        edges.due("without PASSES", -1, x.find(0));
        edges.due("without PASSES", -1, x.find(2));
        edges.due("of an empty barn", -1, new ChaffInTheWind().find(1));
    }
}
