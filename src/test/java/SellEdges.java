/** Promises 28 to 34: what it sells for. */
final class SellEdges {
    private static final int MOST = Integer.MAX_VALUE;
    private static final int LEAST = Integer.MIN_VALUE;

    private final Edges edges;

    SellEdges(Edges edges) {
        this.edges = edges;
    }

    void run() {
        edges.of(28, "NoSuchElementException: none such, that PRICE is not told", this::noPrice);
        edges.of(29, "the first of 0 or more that is so great", this::theFirstPrice);
        edges.of(29, "NONE, if there is none, or no grain", this::noneOrNoGrain);
        edges.of(29, "NONE: none such", this::worthNone);
        edges.of(30, "into at most k heaps (1 .. 4)", this::atMostHeaps);
        edges.of(30, "of YARDS that lie beside each other, all YARDS", this::allYards);
        edges.of(30, "of equal ones the fewest heaps", this::fewestHeaps);
        edges.of(30, "then the least row of marks", this::leastMarks);
        edges.of(30, "NONE: others", this::marksNone);
        edges.of(31, "of a SORT (0 .. 999)", this::from0To999);
        edges.of(31, "has a WORTH of at least that much", this::atLeast);
        edges.of(31, "How many such numbers there are; 0 (the ROW is empty)", this::noNumbers);
        edges.of(31, "NONE: none such", this::mayNone);
        edges.of(32, "n grains of a HEAP (0 .. 999) together", this::bushels);
        edges.of(32, "the least they can weigh (WEIGHT), the most", this::lightAndHeavy);
        edges.of(32, "-2: it has not so many", this::notSoMany);
        edges.of(32, "NONE: others", this::bushelNone);
        edges.of(33, "The SORT (of those a HEAP has)", this::ofThoseItHas);
        edges.of(33, "of equal ones the first: it; the ROW: that, less WORTH as it is", this::awayOfEqualOnes);
        edges.of(33, "-2: it has nothing", this::nothingToTakeAway);
        edges.of(33, "NONE: another HEAP", this::awayNone);
        edges.of(34, "(0 .. what there is, 999 at most)", this::whatThereIs);
        edges.of(34, "of equal ones the fewest: so many; the ROW: both together then", this::fewestShifted);
        edges.of(34, "NONE: others, like HEAPS", this::shiftNone);
        edges.of(34, "Nothing changes", this::shiftChangesNothing);
    }

    // ---- promises 28, 29

    private void noPrice() {
        int[][] others = {{3, 0}, {-1, 0}, {2, 0}, {0, 6}, {0, -1}, {MOST, 0}, {LEAST, 0}, {1, MOST}, {1, LEAST}};
        for (int[] o : others) {
            edges.refusedByThrow("price(" + o[0] + ", " + o[1] + ")", x -> x.price(o[0], o[1]));
        }
        ChaffInTheWind x = Barns.busy();
        edges.due("of nothing", 0, x.price(1, 5));
        Check.says(x, 1, "");
        edges.missing("no more told", () -> x.price(1, 5));
    }

    private void theFirstPrice() {
        ChaffInTheWind x = Check.barn("c9,1,0*5");
        int[][] told = {{7, 7, 7, 7, 0}, {7, 8, 8, 8, 1}, {7, 8, 9, 9, 2}, {9, 8, 7, 9, 0}, {0, 0, 0, 0, 0}, {-1, 0, 0, 0, 1}, {-1, -1, 0, 0, 2},
            {-5, 3, 3, 3, 1}};
        for (int[] t : told) {
            for (int price = 0; price < 3; price++) {
                Check.says(x, price, "" + t[price]);
            }
            edges.due("of " + t[0] + ", " + t[1] + ", " + t[2], t[3], x.worth(0));
            edges.row("of " + t[0] + ", " + t[1] + ", " + t[2], x, t[4], 5);
        }
        Check.says(x, 0, "");
        Check.says(x, 1, "");
        edges.due("the third alone", 3, x.worth(0));
        edges.row("the third alone", x, 2, 5);
    }

    private void noneOrNoGrain() {
        ChaffInTheWind x = Check.barn("c9,1,0*5");
        edges.due("none is told", 0, x.worth(0));
        edges.row("none is told", x, -1, 5);
        Check.says(x, 1, "-1");
        edges.due("below 0", 0, x.worth(0));
        edges.row("below 0", x, -1, 5);
        Check.says(x, 1, "7");
        edges.due("no grain", 0, x.worth(1));
        edges.row("no grain", x, -1, 0);
        x.sheet(1, 2, 1, 1, 0);
        edges.due("a grain", 7, x.worth(1));
        edges.row("a grain", x, 1, 1);
    }

    private void worthNone() {
        int[] others = {6, -1, MOST, LEAST};
        for (int o : others) {
            edges.refused("worth(" + o + ")", x -> x.worth(o));
        }
    }

    // ---- promise 30

    private void atMostHeaps() {
        ChaffInTheWind x = Barns.lying(new int[][] {{5, 0}, {0, 3}, {4, 0}, {0, 0}, {6, 0}, {0, 9}});
        Check.says(x, 0, "c-2*w");
        long[][] due = {{0, 1}, {9, 2, 5}, {10, 3, 2, 5}, {15, 4, 1, 2, 5}};
        for (int k = 1; k <= 4; k++) {
            edges.due("k " + k, due[k - 1][0], x.marks(k));
            long[] row = new long[due[k - 1].length - 1];
            System.arraycopy(due[k - 1], 1, row, 0, row.length);
            edges.row("k " + k, x, row);
        }
        x = Barns.lying(new int[][] {{3, 0}, {3, 0}});
        Check.says(x, 0, "99-n");
        edges.due("four of two YARDS", 192, x.marks(4));
        edges.row("four of two YARDS", x, 2, 1);
        x = Barns.lying(new int[][] {{3, 0}, {3, 0}, {3, 0}});
        Check.says(x, 0, "99-n");
        edges.due("four of three YARDS", 288, x.marks(4));
        edges.row("four of three YARDS", x, 3, 1, 2);
        Check.text(x, "y2").barn();
        edges.due("four of two YARDS, of which nothing is known", 0, x.marks(4));
        edges.row("four of two YARDS, of which nothing is known", x, 1);
    }

    private void allYards() {
        ChaffInTheWind x = Barns.lying(new int[][] {{9, 0}, {0, 0}, {0, 1}, {0, 0}, {0, 0}, {9, 0}});
        Check.says(x, 0, "c-9*w");
        edges.due("one heap", 9, x.marks(1));
        edges.row("one heap", x, 1);
        Check.says(x, 0, "c-99*w");
        edges.due("one heap of all", 0, x.marks(1));
        edges.due("two", 9, x.marks(2));
        edges.row("the first YARD alone, or the last", x, 2, 1);
        edges.due("three", 18, x.marks(3));
        edges.row("three", x, 3, 1, 3);
        x = Barns.lying(new int[][] {{3, 0}, {0, 0}, {3, 0}, {0, 1}});
        Check.says(x, 0, "c-99*w");
        edges.due("the last YARD alone", 6, x.marks(2));
        edges.row("the last YARD alone", x, 2, 3);
        x = Barns.low(11);
        x.set(1, 40);
        x.go(0, 1);
        Check.says(x, 0, "n");
        edges.due("OUT is no YARD", 3, x.marks(4));
        edges.due("an empty barn", 0, new ChaffInTheWind().marks(4));
        x = Check.barn("c9,1,0*3;y24");
        x.set(2, 23);
        x.go(0, 1);
        Check.says(x, 0, "c");
        edges.due("24 YARDS", 27, x.marks(4));
        edges.row("24 YARDS", x, 1);
        Check.says(x, 0, "c+5");
        edges.due("24 YARDS, the last alone", 32, x.marks(4));
        edges.row("24 YARDS, the last alone", x, 1);
    }

    private void fewestHeaps() {
        ChaffInTheWind x = Barns.lying(new int[][] {{5, 0}, {4, 0}, {3, 0}});
        edges.due("no PRICE", 0, x.marks(4));
        edges.row("no PRICE", x, 1);
        Check.says(x, 0, "c");
        edges.due("as much in one", 12, x.marks(4));
        edges.row("as much in one", x, 1);
        Check.says(x, 0, "(n<8)*n");
        edges.due("as much in two", 12, x.marks(4));
        edges.row("as much in two", x, 2, 1);
    }

    private void leastMarks() {
        ChaffInTheWind x = Barns.lying(new int[][] {{0, 0}, {2, 0}, {0, 0}, {0, 2}, {0, 0}, {2, 0}});
        Check.says(x, 0, "c-2*w");
        edges.due("2 or 3", 2, x.marks(2));
        edges.row("2 or 3", x, 2, 2);
        edges.due("2 or 3, then 4 or 5", 4, x.marks(4));
        edges.row("2 or 3, then 4 or 5", x, 3, 2, 4);
        x = Barns.lying(new int[][] {{1, 0}, {1, 0}, {1, 0}, {1, 0}, {1, 0}});
        Check.says(x, 0, "n=2");
        edges.due("three", 2, x.marks(4));
        edges.row("2 1 2, 2 2 1 or 1 2 2", x, 3, 1, 3);
    }

    private void marksNone() {
        int[] others = {0, 5, -1, MOST, LEAST};
        for (int o : others) {
            edges.refused("marks(" + o + ")", x -> x.marks(o));
        }
    }

    // ---- promise 31

    private void from0To999() {
        ChaffInTheWind x = Check.barn("c10,1,0*3;w2,1,0*5");
        edges.due("all", 1000, x.may(0, 1, 0));
        edges.row("all", x, 0, 999);
        Check.says(x, 0, "n=999+3");
        edges.due("999 alone", 1, x.may(0, 1, 1));
        edges.row("999 alone", x, 999, 999);
        Check.says(x, 0, "n=3");
        edges.due("0 alone", 1, x.may(0, 1, 1));
        edges.row("0 alone", x, 0, 0);
        Check.says(x, 0, "n=999+4");
        edges.due("1000 does not count", 0, x.may(0, 1, 1));
        edges.due("nothing changes", 5, x.has(0, 1));
    }

    private void atLeast() {
        ChaffInTheWind x = Check.barn("c10,1,0*3;w2,1,0*5");
        Check.says(x, 0, "w");
        edges.due("8", 996, x.may(0, 1, 8));
        edges.row("8", x, 4, 999);
        edges.due("9", 995, x.may(0, 1, 9));
        edges.row("9", x, 5, 999);
        edges.due("below 0", 1000, x.may(0, 1, -1));
        edges.row("below 0", x, 0, 999);
        edges.due("far below", 1000, x.may(0, 1, LEAST));
    }

    private void noNumbers() {
        ChaffInTheWind x = Check.barn("c10,1,0*3;w2,1,0*5");
        Check.says(x, 0, "w");
        x.lands(0, 0);
        edges.due("the most", 1, x.may(0, 1, 1998));
        edges.due("more", 0, x.may(0, 1, 1999));
        edges.row("more", x);
        x.lands(0, 0);
        edges.due("far more", 0, x.may(0, 1, MOST));
        edges.row("far more", x);
        edges.due("of an empty HEAP there may be some", 999, x.may(4, 1, 1));
        edges.row("of an empty HEAP there may be some", x, 1, 999);
    }

    private void mayNone() {
        int[][] others = {{6, 0}, {-1, 0}, {0, 4}, {0, -1}, {MOST, 0}, {LEAST, 0}, {0, MOST}, {0, LEAST}};
        for (int[] o : others) {
            edges.refused("may(" + o[0] + ", " + o[1] + ", 1)", x -> x.may(o[0], o[1], 1));
        }
    }

    // ---- promise 32

    private void bushels() {
        ChaffInTheWind x = Check.barn("c10,1,0*999;w2,1,0*999");
        edges.due("0", 0, x.bushel(0, 0));
        edges.row("0", x, 0, 0);
        edges.due("1", 0, x.bushel(0, 1));
        edges.row("1", x, 2, 10);
        edges.due("999", 0, x.bushel(0, 999));
        edges.row("999", x, 1998, 9990);
        edges.due("1000", -1, x.bushel(0, 1000));
        edges.due("0 of nothing", 0, x.bushel(1, 0));
        edges.row("0 of nothing", x, 0, 0);
    }

    private void lightAndHeavy() {
        ChaffInTheWind x = Check.barn("c10,1,0*3;w2,1,0*5;s50,1,0*1;h2,1,0*4");
        long[][] due = {{1, 2, 50}, {2, 4, 60}, {4, 8, 80}, {5, 10, 82}, {9, 18, 90}, {10, 28, 92}, {12, 48, 96}, {13, 98, 98}};
        for (long[] d : due) {
            x.bushel(0, (int) d[0]);
            edges.row(d[0] + " grains", x, d[1], d[2]);
        }
    }

    private void notSoMany() {
        ChaffInTheWind x = Check.barn("c10,1,0*3;w2,1,0*5");
        x.never();
        edges.due("all", 0, x.bushel(0, 8));
        edges.due("one more", -2, x.bushel(0, 9));
        edges.row("the ROW stays", x, 40, 40);
        edges.due("of nothing", -2, x.bushel(1, 1));
        edges.unanswered("far more", -2, y -> y.bushel(1, 999));
    }

    private void bushelNone() {
        int[][] others = {{6, 1}, {-1, 1}, {0, 1000}, {0, -1}, {3, 1000}, {MOST, 1}, {LEAST, 1}, {0, MOST}, {0, LEAST}, {6, 0}};
        for (int[] o : others) {
            edges.refused("bushel(" + o[0] + ", " + o[1] + ")", x -> x.bushel(o[0], o[1]));
        }
    }

    // ---- promises 33, 34

    private void ofThoseItHas() {
        ChaffInTheWind x = Check.barn("h1,1,0*0;c10,1,0*3;w2,1,0*1;s1,1,0*0");
        Check.says(x, 0, "c+w");
        edges.due("not those of which it has none", 2, x.away(0));
        edges.row("not those of which it has none", x, -2);
        x.sheet(1, 2, 3, -1, 1);
        x.sheet(2, 2, 4, -2, 1);
        edges.due("one SORT alone", 2, x.away(1));
        edges.row("all of it", x, -2);
        edges.due("the last SORT", 3, x.away(2));
        edges.row("the last SORT", x, 0);
    }

    private void awayOfEqualOnes() {
        ChaffInTheWind x = Check.barn("s1,1,0*0;c10,1,0*3;w10,1,0*3;s10,1,0*3");
        Check.says(x, 0, "99-n");
        edges.due("three that are equal", 1, x.away(0));
        edges.row("three that are equal", x, 3);
        Check.says(x, 0, "99-n+c/30");
        edges.due("the first of two", 2, x.away(0));
        edges.row("the first of two", x, 3);
        Check.says(x, 0, "c");
        edges.due("no less", 2, x.away(0));
        edges.row("no less", x, 0);
        Check.says(x, 0, "m");
        edges.due("less", 1, x.away(0));
        edges.row("less", x, -30);
    }

    private void nothingToTakeAway() {
        edges.unanswered("an empty HEAP", -2, x -> x.away(3));
        edges.due("an empty barn", -2, new ChaffInTheWind().away(0));
        edges.due("a HEAP of one grain", 0, Check.barn("c9,9,9*1").away(0));
    }

    private void awayNone() {
        int[] others = {6, -1, MOST, LEAST};
        for (int o : others) {
            edges.refused("away(" + o + ")", x -> x.away(o));
        }
        edges.due("of an empty barn", -1, new ChaffInTheWind().away(6));
    }

    private void whatThereIs() {
        ChaffInTheWind x = Check.barn("c1,1,0*7;w1,1,0*999");
        Check.says(x, 0, "(n=7)*9");
        edges.due("all there is", 7, x.shift(0, 1, 0));
        edges.row("all there is", x, 9);
        Check.says(x, 0, "(n=8)*9");
        edges.due("no more", 0, x.shift(0, 1, 0));
        edges.row("no more", x, 0);
        edges.due("of nothing", 0, x.shift(1, 2, 0));
        x.sheet(1, 2, 2, -1, 999 + 1);
        x.mix(1, 0);
        Check.says(x, 0, "(n=998)*9");
        edges.due("998 of 1998", 998, x.shift(0, 1, 1));
        Check.says(x, 0, "(n=999)*9");
        edges.due("999 of 1998", 999, x.shift(0, 1, 1));
        edges.row("999 of 1998", x, 9);
        Check.says(x, 0, "(n=999+1)*9");
        edges.due("1000 is too many", 0, x.shift(0, 2, 1));
        edges.row("1000 is too many", x, 0);
    }

    private void fewestShifted() {
        ChaffInTheWind x = Check.barn("c1,1,0*9;w1,1,0*5");
        edges.due("no PRICE", 0, x.shift(0, 1, 0));
        edges.row("no PRICE", x, 0);
        Check.says(x, 0, "n");
        edges.due("it is all one", 0, x.shift(0, 1, 0));
        edges.row("it is all one", x, 14);
        Check.says(x, 0, "(c>2)*9");
        edges.due("3 .. 6", 3, x.shift(0, 1, 0));
        edges.row("3 .. 6", x, 18);
    }

    private void shiftNone() {
        int[][] others = {{0, 0, 0}, {6, 0, 0}, {0, 6, 0}, {-1, 0, 0}, {0, -1, 0}, {0, 1, 4}, {0, 1, -1}, {MOST, 0, 0}, {0, LEAST, 0},
            {0, 1, MOST}, {0, 1, LEAST}};
        for (int[] o : others) {
            edges.refused("shift(" + o[0] + ", " + o[1] + ", " + o[2] + ")", x -> x.shift(o[0], o[1], o[2]));
        }
    }

    private void shiftChangesNothing() {
        ChaffInTheWind x = Barns.busy();
        edges.due("corn", 3, x.shift(1, 2, 0));
        edges.due("a weed back", 1, x.shift(2, 1, 2));
        x.lands(1, 5);
        edges.same("nothing changes", Barns.busy(), x);
        x = Check.barn("c1,1,0*9;w1,1,0*5");
        Check.says(x, 0, "(c>2)*9");
        edges.due("three", 3, x.shift(0, 1, 0));
        edges.due("they stay", 9, x.has(0, 0));
        edges.due("they did not come", 0, x.has(1, 0));
    }
}
