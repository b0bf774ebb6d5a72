/** Promises 1 to 6: a new object, and the texts that are told. */
final class TextEdges {
    private static final String LINE = "c1,1,1*1;";

    private final Edges edges;

    TextEdges(Edges edges) {
        this.edges = edges;
    }

    void run() {
        edges.of(1, "An empty barn.", this::empty);
        edges.of(2, "Four signs come behind THE TEXT, of v the highest byte first: how many it has.", this::signs);
        edges.of(2, "Refused: there would be more than 80.", this::full);
        edges.of(3, "THE TEXT has its first n signs alone: true", this::ends);
        edges.of(3, "false if it has not so many", this::notSoMany);
        edges.of(3, "or n is below 0", this::endBelow0);
        edges.of(4, "(an empty one: nothing)", this::emptyBarn);
        edges.of(4, "how many LINES", this::lines);
        edges.of(4, "the sign at p can't stand there", this::wrongSigns);
        edges.of(4, "its end, if it ends too early", this::tooEarly);
        edges.of(4, "76, if it has more and the first 76 could go on or end", this::more);
        edges.of(4, "a number too small or too great", this::wrongNumbers);
        edges.of(4, "as far as it stands in the first 76: at its last digit", this::cutNumbers);
        edges.of(4, "the letter of a LINE of a SORT for which there is no room", this::noRoom);
        edges.of(5, "THE TEXT is THE WIND: how many LINES", this::windTold);
        edges.of(5, "THROWS are 0", this::throwsAre0);
        edges.of(5, "-1 - p: the sign at p can't stand there, as barn() (40 signs)", this::wrongWinds);
        edges.of(6, "THE TEXT is a PRICE (0 .. 2), THE LAW (3)", this::pricesTold);
        edges.of(6, "(an empty one: there is none)", this::noneTold);
        edges.of(6, "-1 - p: the sign at p can't stand there, as barn() (40 signs)", this::wrongPrices);
        edges.of(6, "-100: another number (asked first)", this::otherNumbers);
    }

    // ---- promises 1 to 3

    private void empty() {
        ChaffInTheWind x = new ChaffInTheWind();
        int[] counts = {0, 12, 0, 0, 0, 0, 0, 0, 0, 0};
        for (int what = 0; what < counts.length; what++) {
            edges.due("count " + what, counts[what], x.count(what));
        }
        edges.missing("no SORT", () -> x.sort(0, 0));
        edges.missing("no ROW", () -> x.row(0));
        edges.due("no grains", -1, x.has(0, 0));
        edges.due("nothing lies", -1, x.lies(0, 0));
        edges.due("no THROW", 0, x.go(0, 500));
        edges.due("no WIND", 0, x.blows());
        edges.due("no PASS", -1, x.stays(0));
        edges.due("nothing parts", 0, x.never());
        edges.due("nothing is worth anything", 0, x.worth(0));
        edges.due("nothing to mix", 0, x.mix(0, 1));
        edges.due("nothing to gather", 0, x.gather(0, 11, 0));
        edges.due("nothing on the sheet", 0, x.sheet(0, 2, 10, 9, 0));
        edges.due("R", 1, x.seed(1));
        edges.due("nothing is kept", false, x.again(0) || x.again(1) || x.again(2));
    }

    private void signs() {
        ChaffInTheWind x = new ChaffInTheWind();
        edges.due("four", 4, x.sign('y' << 24 | '2' << 16 | '3' << 8 | 'x'));
        edges.due("eight", 8, x.sign(0));
        x.end(3);
        edges.due("three told", 1, x.barn());
        edges.due("y23", 23, x.count(1));
        x.sign((128 + 'y') << 24 | '9' << 16);
        x.end(2);
        edges.due("a sign is a whole byte", -1, x.barn());
        x.sign('y' << 24 | (128 + '9') << 16);
        x.end(2);
        edges.due("a sign is a whole byte", -2, x.barn());
        edges.due("all bits", 4, x.sign(-1));
        edges.due("behind them", 8, x.sign(Integer.MIN_VALUE));
    }

    private void full() {
        ChaffInTheWind x = new ChaffInTheWind();
        for (int i = 1; i <= 20; i++) {
            edges.due("sign " + i, 4 * i, x.sign('y' << 24 | '7' << 16 | ';' << 8 | ';'));
        }
        edges.due("84", -1, x.sign(0));
        edges.due("80 stay", 80, x.count(9));
        x.end(77);
        edges.due("81", -1, x.sign(0));
        edges.due("77 stay", 77, x.count(9));
        x.end(76);
        edges.due("80", 80, x.sign(0));
        x.end(2);
        edges.due("they are as they were", 1, x.barn());
        edges.due("they are as they were", 7, x.count(1));
    }

    private void ends() {
        ChaffInTheWind x = Check.text(new ChaffInTheWind(), "y17;");
        edges.due("all", true, x.end(4));
        edges.due("all", 4, x.count(9));
        edges.due("three", true, x.end(3));
        edges.due("three", 3, x.count(9));
        edges.due("the first", 1, x.barn());
        edges.due("the first", 17, x.count(1));
        Check.text(x, "y17;");
        edges.due("none", true, x.end(0));
        edges.due("none", 0, x.count(9));
        edges.due("none of none", true, x.end(0));
    }

    private void notSoMany() {
        edges.unanswered("3 of 2", 0, x -> x.end(3) ? 1 : 0);
        edges.unanswered("far more", 0, x -> x.end(Integer.MAX_VALUE) ? 1 : 0);
        edges.due("1 of none", false, new ChaffInTheWind().end(1));
    }

    private void endBelow0() {
        edges.unanswered("-1", 0, x -> x.end(-1) ? 1 : 0);
        edges.unanswered("far below", 0, x -> x.end(Integer.MIN_VALUE) ? 1 : 0);
    }

    // ---- promise 4

    private void emptyBarn() {
        ChaffInTheWind x = Check.text(Barns.busy(), "");
        edges.due("no LINES", 0, x.barn());
        edges.same("nothing changes", Check.text(Barns.busy(), ""), x);
    }

    private void lines() {
        edges.due("one", 1, Check.text(new ChaffInTheWind(), "y5").barn());
        edges.due("two", 2, Check.text(new ChaffInTheWind(), "y5;c1,1,1*1").barn());
        edges.due("nine", 9, Check.text(new ChaffInTheWind(), LINE.repeat(8) + "y5").barn());
        edges.due("many", 19, Check.text(new ChaffInTheWind(), "y5;".repeat(18) + "y5").barn());
    }

    private void barnRefuses(Object[][] told) {
        for (Object[] t : told) {
            edges.refusedText((String) t[0], (Integer) t[1], ChaffInTheWind::barn);
        }
    }

    private void wrongSigns() {
        barnRefuses(new Object[][] {{"x", 0}, {"C1,1,1*1", 0}, {" c1,1,1*1", 0}, {";", 0}, {"1", 0}, {"c,", 1}, {"c-1", 1},
            {"c1;1,1*1", 2}, {"c1,;", 3}, {"c1,1*", 4}, {"c1,1,x", 5}, {"c1,1,1,1", 6}, {"c1,1,1*-", 7}, {"c1,1,1*1*", 8},
            {"c1,1,1*1y5", 8}, {"c1,1,1*1;q", 9}, {"yy", 1}, {"y5,", 2}, {"y5;;", 3}, {"y5;c1,1,1*1;y7;7", 15}});
    }

    private void tooEarly() {
        barnRefuses(new Object[][] {{"c", 1}, {"c1", 2}, {"c1,", 3}, {"c1,1", 4}, {"c1,1,", 5}, {"c1,1,1", 6}, {"c1,1,1*", 7},
            {"c1,1,1*1;", 9}, {"y", 1}, {"y5;", 3}, {"y5;s", 4}});
        barnRefuses(new Object[][] {{"y12;".repeat(19), 76}, {LINE.repeat(6) + "y12;y12;y12;y12;y12;y", 75}});
    }

    /** 72 signs of LINES, and what begins with the 73rd. */
    private static String from73(String more) {
        return "y12;".repeat(18) + more;
    }

    private void more() {
        barnRefuses(new Object[][] {{from73("y123"), 75}, {from73("y9;yy"), 76}, {from73("y12;"), 76}, {from73("y12;y12;"), 76},
            {from73("y1;;"), 73}, {from73("y12x"), 75},
            {from73("y1;y9;y9"), 73}, {from73("x12;y9"), 72}, {"x" + from73("y12;"), 0}});
        String seventyThree = "c10,1,1*1;" + "y12;".repeat(15) + "y9;";
        edges.due("76 that end", 18, Check.text(new ChaffInTheWind(), seventyThree + "y12").barn());
        barnRefuses(new Object[][] {{seventyThree + "y12;", 76}, {seventyThree + "y12x", 76}, {seventyThree + "y123456", 76},
            {seventyThree + "c10", 76}, {seventyThree + "c10;", 76}, {seventyThree + "y9;x", 76}});
    }

    private void wrongNumbers() {
        barnRefuses(new Object[][] {{"c0,1,1*1", 1}, {"c00,1,1*1", 2}, {"c0", 1}, {"c1,0,1*1", 3}, {"c1,00,1*1", 4}, {"c1,61,1*1", 4},
            {"c1,99", 4}, {"c1,1,61*1", 6}, {"c1,1,99", 6}, {"y0", 1}, {"y1", 1}, {"y1;", 1}, {"y01", 2}, {"y25", 2}, {"y99;", 2},
            {"y5;y1;y5", 4}, {"y5;c1,1,1*1;h1,88,1*1", 16}});
    }

    private void cutNumbers() {
        String seventyFour = "c10,1,1*1;" + "y12;".repeat(16);
        edges.due("2 at the end", 18, Check.text(new ChaffInTheWind(), seventyFour + "y2").barn());
        barnRefuses(new Object[][] {{seventyFour + "y1", 75}, {seventyFour + "y12", 75}, {seventyFour + "y25", 76}, {seventyFour + "y2;", 76}, {seventyFour + "c0", 75}, {seventyFour + "c01", 75},
            {seventyFour + "c1", 76}, {seventyFour + "c10", 76}});
        String seventyThree = "c10,1,1*1;" + "y12;".repeat(15) + "y9;";
        barnRefuses(new Object[][] {{seventyThree + "y25", 75}, {seventyThree + "y255", 75}, {seventyThree + "y01;", 75}});
    }

    private void noRoom() {
        ChaffInTheWind x = Check.barn(LINE.repeat(7) + "c1,1,1*1");
        edges.due("the eleventh in a text", -1 - 18, Check.text(x, LINE + LINE + "h1,1,1*1").barn());
        edges.due("the ninth and tenth are not told", 8, x.count(0));
        edges.due("two more", 2, Check.text(x, LINE + "c1,1,1*1").barn());
        edges.due("the eleventh", -1, Check.text(x, "h1,1,1*1").barn());
        edges.due("its letter alone", -1, Check.text(x, "s").barn());
        edges.due("behind a y", -4, Check.text(x, "y5;w1,1,1*1").barn());
        edges.due("no letter", -1, Check.text(x, ";").barn());
        edges.due("no letter behind a y", -4, Check.text(x, "y5;;").barn());
        edges.due("its end", -4, Check.text(x, "y5;").barn());
        edges.due("no more grains", 10, x.count(5));
        edges.due("LONG is as it was", 12, x.count(1));
        edges.due("a y has room", 1, Check.text(x, "y5").barn());
    }

    // ---- promise 5

    private void windTold() {
        ChaffInTheWind x = Barns.low(5);
        edges.due("one", 1, Check.wind(x, "5*1"));
        edges.due("ten", 10, Check.wind(x, "7*1;".repeat(9) + "8*1"));
        edges.due("in place of the one before", 7, x.blows());
        edges.due("an empty one", 0, Check.wind(x, ""));
        edges.due("none", 0, x.blows());
        edges.row("none", x, -1, 0);
    }

    private void throwsAre0() {
        ChaffInTheWind x = Barns.low(5);
        x.set(3, 1);
        x.go(0, 3);
        edges.due("three", 3, x.count(2));
        edges.due("refused", -1, Check.wind(x, "x"));
        edges.due("still three", 3, x.count(2));
        edges.due("told", 1, Check.wind(x, "5*2"));
        edges.due("none", 0, x.count(2));
        x.blows();
        edges.row("from the first on", x, 0, 2);
    }

    private void wrongWinds() {
        String thirtySix = "0*1;".repeat(9);
        Object[][] told = {{"x", 0}, {";", 0}, {"~", 0}, {"-", 1}, {"--1*1", 1}, {"5", 1}, {"5;", 1}, {"5*", 2}, {"5*x", 2}, {"5*1*", 3},
            {"5*1~", 4}, {"5*1~~", 4}, {"5*1~5~", 5}, {"5*1;", 4}, {"5*1;;", 4}, {"61*1", 1}, {"-61*1", 2}, {"99", 1}, {"5*0", 2},
            {"5*00", 3}, {"5*1~0", 4}, {"5*1~00", 5}, {"5*1~21", 5}, {"5*1;61*1", 5},
            {thirtySix + "0*1;", 40}, {thirtySix + "0*1~", 40}, {thirtySix + "0*1;0", 40}, {thirtySix + "0*12;", 40},
            {thirtySix + "0*1~1", 40}, {thirtySix + "0*1~x", 40}, {thirtySix + "0*123", 40}, {thirtySix + "0*1xx", 39},
            {thirtySix + "-61*1", 38}, {thirtySix + "1*00*", 39}, {thirtySix + "12*0", 39}, {thirtySix + "12*01", 39},
            {thirtySix + "12*11", 40}};
        for (Object[] t : told) {
            edges.refusedText((String) t[0], (Integer) t[1], ChaffInTheWind::wind);
        }
    }

    // ---- promise 6

    private void pricesTold() {
        ChaffInTheWind x = Check.barn("c9,1,0*5");
        for (int what = 0; what < 4; what++) {
            edges.due("text " + what, 0, Check.says(x, what, "w+" + what));
            edges.due("told by now", (2 << what) - 1, x.count(3));
        }
        edges.due("PRICE 0", 0, x.price(0, 0));
        edges.due("PRICE 2", 2, x.price(2, 0));
        edges.due("another one in its place", 0, Check.says(x, 2, "c"));
        edges.due("PRICE 2", 45, x.price(2, 0));
    }

    private void noneTold() {
        ChaffInTheWind x = Check.barn("c9,1,0*5");
        for (int what = 0; what < 4; what++) {
            Check.says(x, what, "w");
        }
        for (int what = 0; what < 4; what++) {
            edges.due("empty text " + what, 0, x.says(what));
            edges.due("none of it", 15 - ((2 << what) - 1), x.count(3));
        }
        edges.missing("no PRICE 0", () -> x.price(0, 0));
        edges.due("THE LAW is none", 0, x.stroke(0, 1, 1));
    }

    private void wrongPrices() {
        Object[][] told = {{"x", 0}, {"+", 0}, {" n", 0}, {"n n", 1}, {"n+", 2}, {"n*", 2}, {"n<", 2}, {"n<n<n", 3}, {"-", 1}, {"(", 1},
            {"()", 1}, {"(n", 2}, {"n)", 1}, {"(n))", 3}, {"1000", 3}, {"(((((n", 4}, {"n5", 1}, {"5n", 1}, {"N", 0}, {"z", 0},
            {"n+".repeat(20), 40}, {"n+".repeat(20) + "n", 40}, {"n+".repeat(19) + "nnn", 39}, {"n+".repeat(19) + "99x", 40},
            {"n+".repeat(19) + "9999", 40}, {"n+".repeat(19) + "n)", 39}, {"-".repeat(40), 40}};
        for (int what = 0; what < 3; what++) {
            for (int i = what; i < told.length; i += 3) {
                int price = what;
                edges.refusedText((String) told[i][0], (Integer) told[i][1], x -> x.says(price));
            }
        }
        edges.refusedText("n", 0, x -> x.says(3));
        edges.refusedText("w+i*c", 4, x -> x.says(3));
    }

    private void otherNumbers() {
        int[] others = {4, -1, Integer.MAX_VALUE, Integer.MIN_VALUE};
        for (int other : others) {
            edges.refusedText("n", 99, x -> x.says(other));
            edges.refusedText("", 99, x -> x.says(other));
            edges.refusedText("x", 99, x -> x.says(other));
        }
    }
}
