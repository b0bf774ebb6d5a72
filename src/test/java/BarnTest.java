/** Promises 1 to 10: the barn. */
public final class BarnTest {
    private static final Check CHECK = new Check("BarnTest");
    private static final String LINE = "c1,1,1*1;";

    public static void main(String[] args) {
        newObject();
        signs();
        barnTells();
        barnRefuses();
        barnTooLong();
        windRefuses();
        windTells();
        saysRefuses();
        saysTells();
        settings();
        sortsTold();
        grains();
        sheets();
        CHECK.close();
    }

    private static void newObject() {
        ChaffInTheWind x = new ChaffInTheWind();
        CHECK.due("NONE", -1, ChaffInTheWind.NONE);
        int[] first = {0, 12, 0, 0, 0, 0, 0, 0, 0, 0};
        for (int what = 0; what < first.length; what++) {
            CHECK.due("1 count " + what, first[what], x.count(what));
        }
        CHECK.due("1 HEIGHT", 100, x.set(0, 100));
        CHECK.due("1 SLANT", 0, x.set(1, 0));
        CHECK.due("1 STAND", 0, x.set(2, 0));
        CHECK.due("1 SHOVEL", 20, x.set(3, 20));
        CHECK.due("1 WET", 0, x.set(4, 0));
        CHECK.due("1 R", 1, x.seed(1));
        CHECK.row("1", x);
        CHECK.due("1 again", false, x.again(0));
        CHECK.due("1 barn", 0, x.barn());
        CHECK.due("1 wind", 0, x.wind());
        CHECK.due("1 go", 0, x.go(0, 500));
    }

    private static void signs() {
        ChaffInTheWind x = new ChaffInTheWind();
        CHECK.due("2 sign", 4, x.sign('y' << 24 | '2' << 16 | '3' << 8 | 'x'));
        CHECK.due("3 below 0", false, x.end(-1));
        CHECK.due("3 too many", false, x.end(5));
        CHECK.due("3 nothing changes", 4, x.count(9));
        CHECK.due("3 all", true, x.end(4));
        CHECK.due("3 end", true, x.end(3));
        CHECK.due("3 end is left", 3, x.count(9));
        CHECK.due("2 the highest byte first", 1, x.barn());
        CHECK.due("2 the highest byte first", 23, x.count(1));
        CHECK.due("4 empties", 0, x.count(9));
        for (int i = 1; i <= 20; i++) {
            CHECK.due("2 sign " + i, 4 * i, x.sign(-1));
        }
        CHECK.due("2 81", -1, x.sign(0));
        CHECK.due("2 nothing changes", 80, x.count(9));
        x.end(77);
        CHECK.due("2 81", -1, x.sign(0));
        x.end(76);
        CHECK.due("2 80", 80, x.sign(0));
        CHECK.due("3 none", true, x.end(0));
        CHECK.due("3 none of none", true, x.end(0));
        CHECK.due("3 one of none", false, x.end(1));
        x.sign(0xff000000);
        CHECK.due("2 a sign above 127", -1, x.barn());
    }

    private static void barnTells() {
        ChaffInTheWind x = new ChaffInTheWind();
        CHECK.due("4 all kinds", 4, Check.text(x, "c01,60,00*999;h99,1,60*0;w2,03,4*007;s5,6,7*10").barn());
        CHECK.due("4 SORTS", 4, x.count(0));
        CHECK.due("4 grains", 1016, x.count(5));
        CHECK.due("4 LONG stays", 12, x.count(1));
        CHECK.due("4 behind", 2, Check.text(x, "h1,1,1*5;y24").barn());
        CHECK.due("4 behind", 5, x.count(0));
        CHECK.due("4 behind", 5, x.has(0, 4));
        CHECK.due("4 behind", 999, x.has(0, 0));
        CHECK.due("4 LONG", 24, x.count(1));
        CHECK.due("4 empty", 0, x.barn());
        CHECK.due("4 empty", 24, x.count(1));
        CHECK.due("4 two LONGS", 2, Check.text(x, "y2;y3").barn());
        CHECK.due("4 the last LONG", 3, x.count(1));

        x = Check.barn("c9,1,0*7;h1,1,4*3");
        x.set(0, 1);
        x.set(2, 5);
        x.set(3, 4);
        x.go(0, 1);
        CHECK.due("4 lies", 4, x.count(6));
        CHECK.due("4 a LINE of a SORT moves nothing", 1, Check.text(x, "s9,1,0*1").barn());
        CHECK.due("4 lies still", 4, x.count(6));
        x.set(2, 11);
        Check.wind(x, "60*1");
        x.go(0, 1);
        CHECK.due("4 lies and is OUT", 2, x.count(7));
        CHECK.due("4 y", 1, Check.text(x, "y10").barn());
        CHECK.due("4 nothing lies", 0, x.count(6));
        CHECK.due("4 OUT is OUT", 2, x.count(7));
        CHECK.due("4 STAND is LONG less 1", 9, x.set(2, 3));
        CHECK.due("4 y longer", 1, Check.text(x, "y20").barn());
        x.go(0, 1);
        int lying = x.count(6);
        CHECK.due("4 a LINE of a SORT behind one of y", 1, Check.text(x, "s9,1,0*1").barn());
        CHECK.due("4 a wrong LINE behind one of y", -5, Check.text(x, "y15;").barn());
        CHECK.due("4 a LINE of a SORT behind a wrong text", 1, Check.text(x, "s9,1,0*1").barn());
        CHECK.due("4 lies still", lying, x.count(6));
        CHECK.due("4 LONG is as it was", 20, x.count(1));
        CHECK.due("4 STAND stays", 3, x.set(2, 15));
        CHECK.due("4 y shorter and longer", 2, Check.text(x, "y7;y18").barn());
        CHECK.due("4 STAND by each LINE", 6, x.set(2, 17));
        CHECK.due("4 a wrong text", -5, Check.text(x, "y7;y1;").barn());
        CHECK.due("4 STAND stays", 17, x.set(2, 0));
    }

    private static void barnRefuses() {
        Object[][] told = {
            {"x", -1}, {"C1,1,1*1", -1}, {";", -1}, {" ", -1}, {"1", -1},
            {"c", -2}, {"c,", -2}, {"c-1", -2}, {"c0,1,1*1", -2}, {"c0", -2}, {"c00,1,1*1", -3}, {"c100,1,1*1", -4},
            {"c1", -3}, {"c1*", -3}, {"c1;", -3}, {"c1,", -4}, {"c1,0,1*1", -4}, {"c1,61,1*1", -5}, {"c1,600", -6},
            {"c1,1", -5}, {"c1,1;", -5}, {"c1,1,", -6}, {"c1,1,61*1", -7}, {"c1,1,1", -7}, {"c1,1,1,", -7},
            {"c1,1,1*", -8}, {"c1,1,1*x", -8}, {"c1,1,1*1000", -11}, {"c1,1,1*1,", -9}, {"c1,1,1*1;", -10},
            {"c001,1,1*1", -3}, {"c1,001,1*1", -5}, {"c1,1,000*1", -8}, {"c1,1,1*0001", -11}, {"y012", -3}, {"y002", -3},
            {"c1,1,1*1;c1,1,0*0;q", -19}, {"c1,1,1*1 ", -9}, {"c 1,1,1*1", -2},
            {"y", -2}, {"y1", -2}, {"y0", -2}, {"y00", -3}, {"y01", -3}, {"y25", -3}, {"y99", -3}, {"y123", -4}, {"y2*", -3},
            {"y24;", -5}, {"y5;y1", -5}, {"y5;;", -4}, {"c1,1,1*1y5", -9}};
        ChaffInTheWind x = Check.barn("c5,6,7*8;y9");
        for (Object[] t : told) {
            CHECK.due("4 " + t[0], (Integer) t[1], Check.text(x, (String) t[0]).barn());
            CHECK.due("4 empties " + t[0], 0, x.count(9));
        }
        CHECK.due("4 nothing changes", 1, x.count(0));
        CHECK.due("4 nothing changes", 9, x.count(1));
        CHECK.due("4 nothing changes", 8, x.count(5));

        x = new ChaffInTheWind();
        String six = LINE.repeat(6);
        CHECK.due("4 six", 7, Check.text(x, six + "y5").barn());
        CHECK.due("4 no room", -1 - 36, Check.text(x, LINE.repeat(4) + "c").barn());
        CHECK.due("4 no room", -1 - 36, Check.text(x, LINE.repeat(5) + "y9").barn());
        CHECK.due("4 nothing changes", 6, x.count(0));
        CHECK.due("4 room", 5, Check.text(x, LINE.repeat(4) + "y9").barn());
        CHECK.due("4 full", 10, x.count(0));
        CHECK.due("4 no room", -1, Check.text(x, "s1,1,1*1").barn());
        CHECK.due("4 no room", -1, Check.text(x, "s").barn());
        CHECK.due("4 no room, nor a sign", -4, Check.text(x, "y8;").barn());
        CHECK.due("4 room for y", 1, Check.text(x, "y8").barn());
    }

    private static void barnTooLong() {
        String seventyThree = "c10,1,1*1;" + LINE.repeat(7);
        CHECK.due("4 76 fit", 9, Check.text(new ChaffInTheWind(), seventyThree + "y12").barn());
        CHECK.due("4 76, could end", -77, Check.text(new ChaffInTheWind(), seventyThree + "y12;").barn());
        CHECK.due("4 76, could end", -77, Check.text(new ChaffInTheWind(), seventyThree + "y125").barn());
        CHECK.due("4 76, could go on", -77, Check.text(new ChaffInTheWind(), LINE.repeat(8) + "y12;y13").barn());
        CHECK.due("4 too great ahead of it", -76, Check.text(new ChaffInTheWind(), seventyThree + "y25;").barn());
        String seventyFour = "c10,10,1*1;" + LINE.repeat(7);
        CHECK.due("4 as far as it stands", -77, Check.text(new ChaffInTheWind(), seventyFour + "y25").barn());
        CHECK.due("4 too small as far as it stands", -76, Check.text(new ChaffInTheWind(), seventyFour + "y12").barn());
        CHECK.due("4 wrong ahead of it", -75, Check.text(new ChaffInTheWind(), seventyFour + "x12345").barn());
        ChaffInTheWind x = new ChaffInTheWind();
        CHECK.due("4 80", -77, Check.text(x, LINE.repeat(8) + "y12;y123").barn());
        CHECK.due("4 nothing changes", 0, x.count(0));
    }

    private static void windRefuses() {
        Object[][] told = {
            {"x", -1}, {"*", -1}, {";", -1}, {"~", -1}, {"-", -2}, {"--5*1", -2}, {"5", -2}, {"5;", -2}, {"61*1", -2}, {"100*1", -3}, {"005*1", -3}, {"5*001", -4}, {"5*1~001", -6}, {"5*1~020", -7},
            {"-61*1", -3}, {"5*", -3}, {"5*-1", -3}, {"5*0", -3}, {"5*00", -4}, {"5*100", -5}, {"5*1*", -4}, {"5*1~", -5},
            {"5*1~0", -5}, {"5*1~21", -6}, {"5*1~-1", -5}, {"5*1~1~", -6}, {"5*1~200", -7}, {"5*1;", -5}, {"5*1;;", -5},
            {"5*1;61*1", -6}, {"5*1~5,", -6},
            {"0*1;".repeat(10), -41}, {"0*1;".repeat(9) + "0*1~", -41}, {"0*1;".repeat(9) + "0*12;", -41},
            {"0*1;".repeat(9) + "0*123", -41}, {"0*1;".repeat(9) + "0*1~1", -41}, {"0*1;".repeat(9) + "0*0~5", -39},
            {"0*1;".repeat(9) + "-61*5", -39}, {"0*1;".repeat(12), -41}};
        ChaffInTheWind x = Check.barn("c9,1,0*100");
        Check.wind(x, "7*3");
        x.go(0, 1);
        for (Object[] t : told) {
            CHECK.due("5 " + t[0], (Integer) t[1], Check.wind(x, (String) t[0]));
            CHECK.due("5 empties " + t[0], 0, x.count(9));
        }
        CHECK.due("5 nothing changes", 1, x.count(2));
        CHECK.due("5 nothing changes", 7, x.blows());
        CHECK.row("5 nothing changes", x, 0, 2);
    }

    private static void windTells() {
        ChaffInTheWind x = Check.barn("c9,1,0*100");
        CHECK.due("5 one", 1, Check.wind(x, "-60*99~20"));
        CHECK.due("5 it", -60, x.blows());
        CHECK.due("5 all", 10, Check.wind(x, "0*1;".repeat(9) + "0*12"));
        x.go(0, 2);
        CHECK.due("5 THROWS", 2, x.count(2));
        CHECK.due("5 leading 0", 2, Check.wind(x, "00*01~01;-05*1"));
        CHECK.due("5 THROWS are 0", 0, x.count(2));
        x.go(0, 1);
        CHECK.due("5 the second", -5, x.blows());
        CHECK.due("5 below 0 of 0", 1, Check.wind(x, "-0*1"));
        x.go(0, 1);
        CHECK.due("5 empty", 0, Check.wind(x, ""));
        CHECK.due("5 THROWS are 0", 0, x.count(2));
        CHECK.due("5 none", 0, x.blows());
        CHECK.row("5 none", x, -1, 0);
        for (int i = 0; i < 4; i++) {
            Check.wind(x, "4*2;5*1");
            x.set(3, 1);
            x.go(0, 4);
            CHECK.due("5 the first one again", 4, x.blows());
            CHECK.row("5 the first one again", x, 0, 1);
        }
    }

    private static void saysRefuses() {
        Object[][] told = {
            {"x", -1}, {"+", -1}, {")", -1}, {"i", -1}, {" ", -1}, {"m+", -3}, {"m-", -3}, {"m*", -3}, {"m/", -3}, {"(m*)", -4}, {"m+*", -3}, {"m m", -2}, {"mm", -2}, {"5m", -2}, {"m5", -2},
            {"m<c<h", -4}, {"m<c=h", -4}, {"m<c>", -4}, {"m<", -3}, {"m<=c", -3}, {"<", -1}, {"-", -2}, {"---", -4},
            {"(", -2}, {"()", -2}, {"(m", -3}, {"(m(", -3}, {"m)", -2}, {"(m))", -4}, {"1000", -4}, {"0000", -4},
            {"(((((m", -5}, {"((((m))))+((((m)))))", -20}, {"(m<c)<(h<w)<1", -12}, {"m+-", -4}, {"m**c", -3}, {"m--+c", -4},
            {"m+".repeat(20), -41}, {"m+".repeat(20) + "m", -41}, {"-".repeat(41) + "m", -41}, {"m+".repeat(19) + "99900", -41},
            {"(" + "m+".repeat(19) + "mmm", -41}, {"m+".repeat(19) + "m)+m", -40}};
        ChaffInTheWind x = Check.barn("c9,1,0*10");
        Check.says(x, 0, "n");
        for (Object[] t : told) {
            CHECK.due("6 " + t[0], (Integer) t[1], Check.says(x, 0, (String) t[0]));
            CHECK.due("6 empties " + t[0], 0, x.count(9));
        }
        CHECK.due("6 nothing changes", 10, x.price(0, 0));
        for (String letter : new String[] {"m", "c", "h", "s", "n", "p"}) {
            CHECK.due("6 LAW " + letter, -1, Check.says(x, 3, letter));
        }
        for (String letter : new String[] {"z", "d", "i"}) {
            CHECK.due("6 PRICE " + letter, -1, Check.says(x, 2, letter));
            CHECK.due("6 LAW " + letter, 0, Check.says(x, 3, letter));
        }
        CHECK.due("6 another", -100, Check.says(x, 4, "m"));
        CHECK.due("6 another empties", 0, x.count(9));
        CHECK.due("6 another", -100, Check.says(x, -1, "x"));
        CHECK.due("6 told", 9, x.count(3));
    }

    private static void saysTells() {
        ChaffInTheWind x = Check.barn("c9,1,0*10");
        for (int what = 0; what < 4; what++) {
            CHECK.due("6 " + what, 0, Check.says(x, what, "w"));
            CHECK.due("6 told " + what, (2 << what) - 1, x.count(3));
        }
        CHECK.due("6 none", 0, Check.says(x, 1, ""));
        CHECK.due("6 none told", 13, x.count(3));
        CHECK.missing("6 none told", () -> x.price(1, 0));
        CHECK.due("6 none", 0, Check.says(x, 3, ""));
        CHECK.due("6 none told", 5, x.count(3));
        CHECK.due("6 40 signs", 0, Check.says(x, 0, "m+".repeat(19) + "99"));
        CHECK.due("6 40 signs", 19 * 90 + 99, x.price(0, 0));
        CHECK.due("6 deep", 0, Check.says(x, 0, "((((n))))*((((n))))"));
        CHECK.due("6 deep", 100, x.price(0, 0));
        CHECK.due("6 many -", 0, Check.says(x, 0, "-".repeat(39) + "n"));
        CHECK.due("6 many -", -10, x.price(0, 0));
    }

    private static void settings() {
        int[][] ends = {{1, 400, 100}, {-40, 40, 0}, {0, 11, 0}, {1, 99, 20}, {0, 50, 0}};
        ChaffInTheWind x = new ChaffInTheWind();
        for (int what = 0; what < 5; what++) {
            int[] e = ends[what];
            CHECK.due("7 too small " + what, -1, x.set(what, e[0] - 1));
            CHECK.due("7 too great " + what, -1, x.set(what, e[1] + 1));
            CHECK.due("7 least " + what, e[2], x.set(what, e[0]));
            CHECK.due("7 most " + what, e[0], x.set(what, e[1]));
            CHECK.due("7 back " + what, e[1], x.set(what, e[2]));
        }
        CHECK.due("7 another", -1, x.set(5, 1));
        CHECK.due("7 another", -1, x.set(-1, 1));
        CHECK.due("7 far", -1, x.set(0, Integer.MIN_VALUE));
    }

    private static void sortsTold() {
        ChaffInTheWind x = Check.barn("c11,12,13*14;h21,22,23*24;w31,32,33*34;s41,42,43*44");
        for (int s = 0; s < 4; s++) {
            CHECK.due("8 KIND", s, x.sort(s, 0));
            for (int what = 1; what < 4; what++) {
                CHECK.due("8 " + what, 10 * s + 10 + what, x.sort(s, what));
            }
        }
        CHECK.missing("8 none such", () -> x.sort(4, 0));
        CHECK.missing("8 none such", () -> x.sort(-1, 0));
        CHECK.missing("8 another", () -> x.sort(0, 4));
        CHECK.missing("8 another", () -> x.sort(0, -1));
        CHECK.missing("8 of an empty barn", () -> new ChaffInTheWind().sort(0, 0));
    }

    private static void grains() {
        ChaffInTheWind x = Check.barn("c11,12,13*14;h21,22,0*24;y4");
        CHECK.due("9 has", 14, x.has(0, 0));
        CHECK.due("9 has", 24, x.has(0, 1));
        CHECK.due("9 has", 0, x.has(5, 1));
        CHECK.due("9 HEAP", -1, x.has(6, 1));
        CHECK.due("9 HEAP", -1, x.has(-1, 1));
        CHECK.due("9 SORT", -1, x.has(0, 2));
        CHECK.due("9 SORT", -1, x.has(0, -1));
        x.set(0, 1);
        x.set(1, 40);
        x.set(3, 6);
        x.go(0, 1);
        CHECK.due("10 lies", 6, x.lies(2, 1));
        CHECK.due("10 lies not", 0, x.lies(2, 0));
        x.set(2, 3);
        x.go(0, 1);
        CHECK.due("10 OUT", 5, x.lies(4, 1));
        CHECK.due("10 OUT", 1, x.lies(4, 0));
        CHECK.due("10 YARD", -1, x.lies(5, 1));
        CHECK.due("10 YARD", -1, x.lies(-1, 1));
        CHECK.due("10 SORT", -1, x.lies(0, 2));
        CHECK.due("10 SORT", -1, x.lies(0, -1));
    }

    private static void sheets() {
        ChaffInTheWind x = Check.barn("c1,1,1*5;h1,1,1*5;s1,1,1*5");
        CHECK.due("11 bytes", 127, x.sheet(0, 0, 3, 127, 1));
        CHECK.due("11 bytes", 127, x.has(0, 0));
        CHECK.due("11 bytes below 0", 0, x.has(0, 1));
        CHECK.due("11 bytes, lowest bits", 4 + 5, x.sheet(1, 0, 2, 256 + 4, 1));
        CHECK.due("11 none behind", 4, x.sheet(1, 0, 1, 256 + 4, 1));
        CHECK.due("11 none behind", 0, x.has(1, 1));
        CHECK.due("11 shorts", 999 + 3, x.sheet(2, 1, 3, 32767, 32772));
        CHECK.due("11 shorts, with sign", 0, x.has(2, 2));
        CHECK.due("11 shorts, lowest bits", 3, x.has(2, 1));
        CHECK.due("11 ints", 998 + 996, x.sheet(3, 2, 3, 998, Integer.MAX_VALUE));
        CHECK.due("11 ints", 998, x.has(3, 0));
        CHECK.due("11 ints wrap", 0, x.has(3, 1));
        CHECK.due("11 ints wrap", 996, x.has(3, 2));
        CHECK.due("11 ints put to 999", 999, x.sheet(3, 2, 1, 65536, 0));
        CHECK.due("11 left aside", 30, x.sheet(4, 2, 10, 10, 0));
        CHECK.due("11 no entries", 0, x.sheet(4, 2, 0, 10, 0));
        x.sheet(5, 2, 3, 7, 0);
        CHECK.due("11 n below 0", -2, x.sheet(5, 0, -1, 7, 1));
        CHECK.due("11 n below 0", -2, x.sheet(5, 2, Integer.MIN_VALUE, 7, 1));
        CHECK.due("11 nothing changes", 7, x.has(5, 2));
        CHECK.due("11 NONE first", -1, x.sheet(6, 0, -1, 7, 1));
        CHECK.due("11 HEAP", -1, x.sheet(-1, 3, 0, 7, 1));
        CHECK.due("11 kind", -1, x.sheet(5, 4, 1, 7, 1));
        CHECK.due("11 kind", -1, x.sheet(5, -1, -1, 7, 1));
        CHECK.due("11 n", -1, x.sheet(5, 3, 11, 7, 1));
        CHECK.due("11 nothing changes", 7, x.has(5, 0));
        CHECK.due("11 missing", -3, x.sheet(5, 3, -1, 7, 1));
        CHECK.due("11 none of all", 0, x.has(5, 0) + x.has(5, 1) + x.has(5, 2));
    }
}
