/** Promises 28 to 34: what it sells for. */
public final class SellingTest {
    private static final Check CHECK = new Check("SellingTest");

    public static void main(String[] args) {
        values();
        prices();
        worth();
        marks();
        may();
        bushel();
        away();
        shift();
        CHECK.close();
    }

    private static int value(ChaffInTheWind x, String signs) {
        CHECK.due("6 " + signs, 0, Check.says(x, 0, signs));
        return x.price(0, 0);
    }

    /** As ints, with wrap-around, and what comes of it in the end put to -99999 .. 99999. */
    private static void values() {
        ChaffInTheWind x = Check.barn("c10,1,0*3;h2,1,0*5;w7,1,0*2;s50,1,0*1;c4,1,0*0;c1,1,0*5");
        Object[][] told = {
            {"m", 109}, {"c", 35}, {"h", 10}, {"w", 14}, {"s", 50}, {"n", 16}, {"k", 2}, {"p", 32},
            {"7", 7}, {"007", 7}, {"999", 999}, {"1+2*3", 7}, {"(1+2)*3", 9}, {"9-4-3", 2}, {"9-(4-3)", 8}, {"2*3+4*5", 26},
            {"100/10/5", 2}, {"100/(10/5)", 50}, {"7/2", 3}, {"-7/2", -3}, {"7/-2", -3}, {"-7/-2", 3}, {"5/0", 0}, {"-5/(m-m)", 0},
            {"7*3/2", 10}, {"7/2*3", 9}, {"--5", 5}, {"---5", -5}, {"5--5", 10}, {"5---5", 0}, {"2*-3", -6}, {"-2*-3", 6}, {"-(1+2)", -3},
            {"1<2", 1}, {"2<1", 0}, {"2<2", 0}, {"2>1", 1}, {"1>2", 0}, {"2>2", 0}, {"2=2", 1}, {"1=2", 0}, {"1+1=2", 1}, {"5-3<1*3", 1},
            {"-1<0", 1}, {"(1<2)+(3>2)", 2}, {"(1<2)<2", 1}, {"((((9))))", 9}, {"(((1)+(1))*((2)))", 4},
            {"999*999", 99999}, {"-999*999", -99999}, {"999*999/999", 999}, {"999*101-999*100", 999}, {"999*999-999*998>998", 1},
            {"99*999+999+99", 99999}, {"100*999+99", 99999}, {"100*999+98", 99998}, {"-100*999-99", -99999},
            {"999*999*999>0", 1}, {"999*999*999*3<0", 1}, {"999*999*999*3/999/99", -13184}};
        for (Object[] t : told) {
            CHECK.due("28 " + t[0], (Integer) t[1], value(x, (String) t[0]));
        }
        x.sheet(0, 2, 4, 99, -70);
        CHECK.due("28 c by m", 990 * 100 / (990 + 58), value(x, "p"));
        x.sheet(0, 2, 5, 0, 999);
        CHECK.due("28 c by m", 400 / (2 + 7 + 50 + 4), value(x, "p"));
        x.sheet(0, 2, 5, 1, -1);
        CHECK.due("28 one grain is a SORT of corn", 1, value(x, "k"));
        x.sheet(0, 3, 0, 0, 0);
        CHECK.due("28 p of nothing", 0, value(x, "p"));
        CHECK.due("28 of nothing", 5, value(x, "5+m+n+k"));
    }

    private static void prices() {
        ChaffInTheWind x = Check.barn("c10,1,0*3;h2,1,0*5");
        Check.says(x, 1, "n");
        Check.says(x, 2, "h");
        x.sheet(4, 2, 2, 1, 1);
        CHECK.due("28 PRICE 1", 8, x.price(1, 0));
        CHECK.due("28 PRICE 2", 10, x.price(2, 0));
        CHECK.due("28 HEAP 4", 3, x.price(1, 4));
        CHECK.due("28 HEAP 5", 0, x.price(1, 5));
        CHECK.missing("28 not told", () -> x.price(0, 0));
        CHECK.missing("28 no PRICE", () -> x.price(3, 0));
        CHECK.missing("28 no PRICE", () -> x.price(-1, 0));
        CHECK.missing("28 no HEAP", () -> x.price(1, 6));
        CHECK.missing("28 no HEAP", () -> x.price(1, -1));
        Check.says(x, 3, "w");
        CHECK.missing("28 THE LAW is no PRICE", () -> x.price(3, 0));
    }

    private static void worth() {
        ChaffInTheWind x = Check.barn("c10,1,0*3;h2,1,0*5");
        CHECK.due("29 no PRICE", 0, x.worth(0));
        CHECK.row("29 no PRICE", x, -1, 8);
        Check.says(x, 0, "-m");
        CHECK.due("29 below 0", 0, x.worth(0));
        CHECK.row("29 below 0", x, -1, 8);
        Check.says(x, 1, "c");
        Check.says(x, 2, "n*4-2");
        CHECK.due("29 the greatest, the first", 30, x.worth(0));
        CHECK.row("29 the greatest, the first", x, 1, 8);
        Check.says(x, 2, "n*4-1");
        CHECK.due("29 the greatest", 31, x.worth(0));
        CHECK.row("29 the greatest", x, 2, 8);
        Check.says(x, 1, "0");
        Check.says(x, 2, "0");
        CHECK.due("29 0", 0, x.worth(0));
        CHECK.row("29 0", x, 1, 8);
        Check.says(x, 1, "5");
        CHECK.due("29 nothing", 0, x.worth(3));
        CHECK.row("29 nothing", x, -1, 0);
        CHECK.due("29 NONE", -1, x.worth(6));
        CHECK.due("29 NONE", -1, x.worth(-1));
        CHECK.row("29 the ROW stays", x, -1, 0);
    }

    private static void marks() {
        ChaffInTheWind x = Barns.lying(new int[][] {{5, 0}, {0, 3}, {4, 0}, {0, 0}, {6, 0}, {0, 9}});
        CHECK.due("30 without a PRICE", 0, x.marks(4));
        CHECK.row("30 without a PRICE", x, 1);
        Check.says(x, 0, "c-2*w");
        CHECK.due("30 one heap", 0, x.marks(1));
        CHECK.row("30 one heap", x, 1);
        CHECK.due("30 two", 9, x.marks(2));
        CHECK.row("30 two", x, 2, 5);
        CHECK.due("30 three", 10, x.marks(3));
        CHECK.row("30 three", x, 3, 2, 5);
        CHECK.due("30 four, WORTH is not below 0", 15, x.marks(4));
        CHECK.row("30 four", x, 4, 1, 2, 5);
        CHECK.due("30 NONE", -1, x.marks(0));
        CHECK.due("30 NONE", -1, x.marks(5));
        CHECK.row("30 the ROW stays", x, 4, 1, 2, 5);
        CHECK.due("30 it lies still", 27, x.count(6));
        x = Barns.lying(new int[][] {{0, 0}, {2, 0}, {0, 0}, {0, 2}, {0, 0}, {2, 0}});
        Check.says(x, 0, "c-2*w");
        CHECK.due("30 the least mark", 2, x.marks(2));
        CHECK.row("30 the least mark", x, 2, 2);
        CHECK.due("30 the least marks", 4, x.marks(4));
        CHECK.row("30 the least marks", x, 3, 2, 4);
        x = Barns.lying(new int[][] {{3, 0}, {3, 0}});
        Check.says(x, 0, "99-n");
        CHECK.due("30 no more heaps than YARDS", 192, x.marks(4));
        CHECK.row("30 no more heaps than YARDS", x, 2, 1);
        Check.says(x, 0, "c");
        CHECK.due("30 the fewest heaps", 6, x.marks(4));
        CHECK.row("30 the fewest heaps", x, 1);
        CHECK.due("30 empty", 0, new ChaffInTheWind().marks(3));
    }

    private static void may() {
        ChaffInTheWind x = Check.barn("c10,1,0*3;w2,1,0*5");
        Check.says(x, 0, "c-w*w");
        CHECK.due("31 few weeds", 3, x.may(0, 1, 14));
        CHECK.row("31 few weeds", x, 0, 2);
        CHECK.due("31 0 is WORTH, too", 1000, x.may(0, 1, 0));
        CHECK.row("31 0 is WORTH, too", x, 0, 999);
        CHECK.due("31 much corn", 980, x.may(0, 0, 100));
        CHECK.row("31 much corn", x, 20, 999);
        CHECK.due("31 below 0", 1000, x.may(0, 0, -7));
        CHECK.row("31 below 0", x, 0, 999);
        Check.says(x, 0, "(n>9)*(n<20)*50");
        Check.says(x, 1, "(n=500)*50");
        CHECK.due("31 not all between", 11, x.may(0, 1, 50));
        CHECK.row("31 not all between", x, 7, 497);
        Check.says(x, 2, "(n=77)*51");
        CHECK.due("31 one", 1, x.may(0, 1, 51));
        CHECK.row("31 one", x, 74, 74);
        Check.says(x, 2, "");
        CHECK.due("31 none", 0, x.may(0, 1, 51));
        CHECK.row("31 none", x);
        CHECK.due("31 nothing changes", 5, x.has(0, 1));
        x.worth(0);
        CHECK.due("31 NONE", -1, x.may(6, 0, 1));
        CHECK.due("31 NONE", -1, x.may(-1, 0, 1));
        CHECK.due("31 NONE", -1, x.may(0, 2, 1));
        CHECK.due("31 NONE", -1, x.may(0, -1, 1));
        CHECK.row("31 the ROW stays", x, 0, 8);
    }

    private static void bushel() {
        ChaffInTheWind x = Check.barn("c10,1,0*3;w2,1,0*5;s50,1,0*1;h2,1,0*4");
        CHECK.due("32", 0, x.bushel(0, 0));
        CHECK.row("32 none", x, 0, 0);
        x.bushel(0, 1);
        CHECK.row("32 one", x, 2, 50);
        x.bushel(0, 5);
        CHECK.row("32 five", x, 10, 50 + 30 + 2);
        x.bushel(0, 11);
        CHECK.row("32 eleven", x, 18 + 20, 50 + 30 + 14);
        x.bushel(0, 13);
        CHECK.row("32 all", x, 98, 98);
        CHECK.due("32 -2", -2, x.bushel(0, 14));
        CHECK.due("32 -2", -2, x.bushel(1, 1));
        CHECK.due("32 NONE first", -1, x.bushel(1, 1000));
        CHECK.due("32 NONE", -1, x.bushel(0, -1));
        CHECK.due("32 NONE", -1, x.bushel(6, 1));
        CHECK.due("32 NONE", -1, x.bushel(-1, 1));
        CHECK.row("32 the ROW stays", x, 98, 98);
        x.sheet(1, 2, 4, 999, 0);
        CHECK.due("32 999", 0, x.bushel(1, 999));
        CHECK.row("32 999", x, 1998, 49950);
    }

    private static void away() {
        ChaffInTheWind x = Check.barn("c10,1,0*3;w2,1,0*5;s50,1,0*1;h2,1,0*0");
        CHECK.due("33 no PRICE", 0, x.away(0));
        CHECK.row("33 no PRICE", x, 0);
        Check.says(x, 0, "c-w-s+100");
        CHECK.due("33 the stone", 2, x.away(0));
        CHECK.row("33 the stone", x, 50);
        Check.says(x, 0, "c+w+s");
        CHECK.due("33 the least loss, the first; none that it has not", 1, x.away(0));
        CHECK.row("33 the least loss", x, -10);
        x.sheet(1, 2, 1, 5, 0);
        CHECK.due("33 all of it", 0, x.away(1));
        CHECK.row("33 all of it", x, -50);
        CHECK.due("33 nothing", -2, x.away(2));
        CHECK.due("33 NONE", -1, x.away(6));
        CHECK.due("33 NONE", -1, x.away(-1));
        CHECK.row("33 the ROW stays", x, -50);
        Check.says(x, 0, "99");
        CHECK.due("33 of equal ones the first", 0, x.away(0));
        CHECK.row("33 of equal ones the first", x, 0);
        CHECK.due("33 nothing changes", 14, x.count(5));
    }

    private static void shift() {
        ChaffInTheWind x = Check.barn("c10,1,0*30;w2,1,0*5");
        x.sheet(1, 2, 2, 7, 5 - 7);
        Check.says(x, 0, "(n<21)*m");
        CHECK.due("34 the most", 8, x.shift(0, 1, 0));
        CHECK.row("34 the most", x, 150 + 10);
        CHECK.due("34 nothing changes", 30, x.has(0, 0));
        CHECK.due("34 nothing changes", 7, x.has(1, 0));
        Check.says(x, 0, "m");
        CHECK.due("34 the fewest", 0, x.shift(0, 1, 0));
        CHECK.row("34 the fewest", x, 390);
        CHECK.due("34 says", 0, Check.says(x, 0, "(n=0)*9+(c>299)*c"));
        CHECK.due("34 from the other one", 7, x.shift(1, 0, 0));
        CHECK.row("34 from the other one", x, 370);
        CHECK.due("34 of what it has not", 0, x.shift(2, 0, 0));
        CHECK.row("34 of what it has not", x, 300);
        CHECK.due("34 like", -1, x.shift(1, 1, 0));
        CHECK.due("34 NONE", -1, x.shift(6, 1, 0));
        CHECK.due("34 NONE", -1, x.shift(1, -1, 0));
        CHECK.due("34 NONE", -1, x.shift(1, 0, 2));
        CHECK.due("34 NONE", -1, x.shift(1, 0, -1));
        CHECK.row("34 the ROW stays", x, 300);
        x.sheet(2, 2, 1, 999, 0);
        x.sheet(3, 2, 1, 999, 0);
        x.mix(3, 2);
        Check.says(x, 0, "n");
        Check.says(x, 1, "(n=998)*99*999");
        CHECK.due("34 998", 998, x.shift(2, 4, 0));
        CHECK.row("34 998", x, 98901 + 1000);
        CHECK.due("34 says", 0, Check.says(x, 1, "(n<999+1)*n*99"));
        CHECK.due("34 999 at most", 999, x.shift(2, 4, 0));
        CHECK.row("34 999 at most", x, 98901 + 98901);
    }
}
