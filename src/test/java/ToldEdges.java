/** Sentences of 'Terms', point 2: EXPRESSIONS, WORTH, THE LAW, PASSES, the ROW, refused calls. */
final class ToldEdges {
    private final Edges edges;

    ToldEdges(Edges edges) {
        this.edges = edges;
    }

    void run() {
        of("texts of at most 40 signs (at first none)", this::priceSigns);
        of("< > = bind least (two; 1 or 0; not one behind the other)", this::comparisons);
        of("then + - (from the left)", this::sums);
        of("then * / (from the left; by 0: 0; cut to 0)", this::products);
        of("then - ahead of a thing (any many)", this::negated);
        of("a NUMBER of 1 to 3 digits", this::numbers);
        of("an EXPRESSION in ( ) (at most 4 in one another)", this::brackets);
        of("c of corn, h of chaff, w of weeds, s of stones (WEIGHT times grains, each summed)", this::weightsSummed);
        of("k SORTS of corn it has", this::sortsOfCorn);
        of("p c times 100 by m (0 of nothing)", this::shareOfCorn);
        of("As ints, put to -99999 .. 99999", this::asInts);
        of("(0, if none is told or that is below 0; nothing: 0)", this::worth);
        of("THE LAW of a basket is such a text, too", this::lawSigns);
        of("k the STROKE (1 .. 9)", this::strokes);
        of("it flings out all of a SORT for which it is not 0", this::notZero);
        of("(without a LAW nothing)", this::noLaw);
        of("PASSES 0 .. (at most 7)", this::passes);
        of("by SETTINGS as they are now, in YARDS from .. to", this::fans);
        of("a SIEVE of a HOLE 1 .. 60 (those not less in SIZE; or those less)", this::sieves);
        of("numbers told last by a call that says so", this::lastRow);
        of("Fractions are told in lowest terms, upper and lower number (0 by 1)", this::fractions);
        of("Rows of numbers are compared from the first on", this::rowsCompared);
        of("Refused calls answer NONE, or false, and change nothing but THE TEXT", this::refused);
        of("which a call that can read it empties, whatever it answers", this::emptied);
        of("NONE is asked ahead of other answers below 0", this::noneFirst);
        of("(what a TEXT tells wrongly aside)", this::textsAside);
        of("The ROW stays with NONE and with each number below 0 that tells why there is no answer", this::rowStays);
        of("a number below 0 that is meant as such (below 0, too) comes with its ROW", this::meantBelowZero);
    }

    private void of(String sentence, Runnable test) {
        edges.of(Edges.TERMS, sentence, test);
    }

    /** The PRICE that a text tells, of HEAP 0 of a barn. */
    private static int value(ChaffInTheWind x, String text) {
        return Check.says(x, 0, text) == 0 ? x.price(0, 0) : Integer.MIN_VALUE;
    }

    private void values(Object[][] told) {
        ChaffInTheWind x = Check.barn("c9,1,0*5");
        for (Object[] t : told) {
            edges.due((String) t[0], (Integer) t[1], value(x, (String) t[0]));
        }
    }

    /** Such a text is no EXPRESSION from the sign at p on. */
    private void wrong(String text, int p) {
        edges.due(text, -1 - p, Check.says(new ChaffInTheWind(), 0, text));
    }

    // ---- EXPRESSIONS

    private void priceSigns() {
        ChaffInTheWind x = Check.barn("c9,1,0*5");
        edges.due("at first none", 0, x.count(3));
        edges.missing("at first none", () -> x.price(0, 0));
        edges.due("40", 19 * 5 + 99, value(x, "n+".repeat(19) + "99"));
        wrong("n+".repeat(19) + "999", 40);
        wrong("n+".repeat(40), 40);
    }

    private void comparisons() {
        values(new Object[][] {{"1<2", 1}, {"2<1", 0}, {"2<2", 0}, {"1>2", 0}, {"2>1", 1}, {"2>2", 0}, {"1=2", 0}, {"2=2", 1},
            {"1+1=2", 1}, {"5>2*3-1", 0}, {"-1<0", 1}, {"(1<2)<1", 0}, {"3-(1<2)", 2}});
        wrong("1<2<3", 3);
        wrong("1=1=1", 3);
        wrong("(1<2=3)", 4);
        wrong("1<", 2);
        wrong("<1", 0);
        wrong("1<=2", 2);
    }

    private void sums() {
        values(new Object[][] {{"9-4-3", 2}, {"9-4+3", 8}, {"9-(4+3)", 2}, {"2*3+4*5", 26}, {"1-2", -1}});
        wrong("1+", 2);
        wrong("+1", 0);
    }

    private void products() {
        values(new Object[][] {{"100/10/5", 2}, {"7/2*3", 9}, {"3*7/2", 10}, {"7/(2*3)", 1}, {"5/0", 0}, {"0/0", 0}, {"-5/0", 0},
            {"5/0*7", 0}, {"8/(n-n)+1", 1}, {"7/2", 3}, {"-7/2", -3}, {"7/-2", -3}, {"-7/-2", 3}, {"-1/2", 0}});
        wrong("1*", 2);
        wrong("1**2", 2);
    }

    private void negated() {
        values(new Object[][] {{"-5", -5}, {"--5", 5}, {"---5", -5}, {"2*-3", -6}, {"-2*3", -6}, {"5--5", 10}, {"-(1+2)", -3},
            {"-".repeat(39) + "n", -5}, {"-".repeat(38) + "n", 5}});
        wrong("-", 1);
        wrong("-".repeat(40) + "n", 40);
        wrong("-+1", 1);
    }

    private void numbers() {
        values(new Object[][] {{"0", 0}, {"7", 7}, {"07", 7}, {"007", 7}, {"999", 999}});
        wrong("1000", 3);
        wrong("0007", 3);
        wrong("12 ", 2);
    }

    private void brackets() {
        values(new Object[][] {{"((((9))))", 9}, {"((((1))))+((((2))))", 3}, {"(((1)+(2))*((3)))", 9}, {"(1)+(2)+(3)+(4)+(5)", 15}});
        wrong("(((((9)))))", 4);
        wrong("((((1+(2)))))", 6);
        wrong("()", 1);
        wrong("(1", 2);
        wrong("1)", 1);
        wrong("(1))", 3);
    }

    private void weightsSummed() {
        ChaffInTheWind x = Check.barn("c99,1,0*999;c99,1,0*1;h98,1,0*999;w97,1,0*999;s96,1,0*999");
        edges.due("c", 99 * 1000, value(x, "c"));
        edges.due("h", 98 * 999, value(x, "h"));
        edges.due("w", 97 * 999, value(x, "w"));
        edges.due("s", 96 * 999, value(x, "s"));
        edges.due("n", 4 * 999 + 1, value(x, "n"));
        edges.due("m is put to 99999", 99999, value(x, "m"));
        edges.due("m", (99 * 1000 + (98 + 97 + 96) * 999) / 9, value(x, "m/9"));
        x.sheet(0, 3, 0, 0, 0);
        edges.due("of nothing", 0, value(x, "m+c+h+w+s+n+k+p"));
    }

    private void sortsOfCorn() {
        ChaffInTheWind x = Check.barn("c9,1,0*1;c9,1,0*0;w9,1,0*5;c9,1,0*999");
        edges.due("two", 2, value(x, "k"));
        x.sheet(0, 2, 1, 0, 0);
        edges.due("none", 0, value(x, "k"));
    }

    private void shareOfCorn() {
        ChaffInTheWind x = Check.barn("c1,1,0*1;w1,1,0*2");
        edges.due("cut", 33, value(x, "p"));
        x.sheet(0, 2, 2, 5, -5);
        edges.due("corn alone", 100, value(x, "p"));
        x.sheet(0, 2, 2, 0, 5);
        edges.due("no corn", 0, value(x, "p"));
        x.sheet(0, 2, 0, 0, 0);
        edges.due("of nothing", 0, value(x, "p"));
    }

    private void asInts() {
        values(new Object[][] {{"100*999+99", 99999}, {"100*999+98", 99998}, {"101*999", 99999}, {"999*999", 99999},
            {"-100*999-99", -99999}, {"-100*999-98", -99998}, {"-999*999", -99999}, {"999*101-999*100", 999},
            {"999*999*999>0", 1}, {"999*999*999*3<0", 1}, {"999*999*999*3/999/99", -13184}});
    }

    private void worth() {
        ChaffInTheWind x = Check.barn("c9,1,0*5");
        edges.due("none is told", 0, x.worth(0));
        Check.says(x, 0, "-1");
        edges.due("below 0", 0, x.worth(0));
        Check.says(x, 1, "0");
        edges.due("0", 0, x.worth(0));
        Check.says(x, 2, "1");
        edges.due("1", 1, x.worth(0));
        Check.says(x, 0, "2");
        edges.due("the greatest", 2, x.worth(0));
        edges.due("nothing", 0, x.worth(1));
        Check.says(x, 0, "999*999");
        edges.due("put to 99999", 99999, x.worth(0));
    }

    // ---- THE LAW, PASSES

    private void lawSigns() {
        ChaffInTheWind x = Check.barn("c9,1,0*5");
        edges.due("40", 0, Check.says(x, 3, "w+".repeat(19) + "99"));
        edges.due("told", 8, x.count(3));
        edges.due("41", -41, Check.says(x, 3, "w+".repeat(19) + "999"));
        String[] letters = {"w", "z", "d", "i", "k", "m", "c", "h", "s", "n", "p"};
        for (int i = 0; i < letters.length; i++) {
            edges.due("LAW " + letters[i], i < 5 ? 0 : -1, Check.says(x, 3, letters[i]));
        }
        for (int i = 0; i < 4; i++) {
            boolean both = i == 0;
            edges.due("PRICE " + letters[i], both ? 0 : -1, Check.says(x, 0, letters[i]));
        }
        x = Check.barn("s11,22,33*5");
        String[] things = {"w-11", "z-22", "d-33", "i-3", "k-9"};
        for (String thing : things) {
            Check.says(x, 3, thing);
            edges.due(thing + " is 0", 0, x.stroke(0, 9, 1));
        }
    }

    private void strokes() {
        ChaffInTheWind x = Check.barn("c1,1,0*1;w9,1,0*2");
        Check.says(x, 3, "k=w");
        edges.due("0", -1, x.stroke(0, 0, 1));
        edges.due("10", -1, x.stroke(0, 10, 1));
        edges.due("1", 1, x.stroke(0, 1, 1));
        edges.due("9", 2, x.stroke(0, 9, 1));
    }

    private void notZero() {
        ChaffInTheWind x = Check.barn("c1,1,0*1;w2,1,0*2;h3,1,0*4");
        Check.says(x, 3, "w-2");
        edges.due("-1 and 1", 5, x.stroke(0, 1, 1));
        edges.due("0 stays", 2, x.has(0, 1));
        Check.says(x, 3, "0");
        edges.due("never", 0, x.stroke(0, 1, 1));
        Check.says(x, 3, "i");
        edges.due("weeds", 2, x.stroke(0, 1, 1));
    }

    private void noLaw() {
        ChaffInTheWind x = Check.barn("s9,1,0*5");
        edges.due("at first", 0, x.stroke(0, 1, 1));
        Check.says(x, 3, "1");
        edges.due("all", 5, x.stroke(0, 1, 1));
        Check.says(x, 3, "");
        edges.due("none again", 0, x.stroke(1, 1, 0));
        edges.due("no STROKE is needed", 0, x.strokes(1));
        edges.row("all stay", x, 0, 5);
    }

    private void passes() {
        ChaffInTheWind x = Check.barn("c9,1,0*5");
        edges.due("none", 0, x.count(4));
        for (int i = 0; i < 7; i++) {
            edges.due("PASS " + i, i, i % 2 == 0 ? x.hole(9, true) : x.blow(0, 0, 0));
        }
        edges.due("a SIEVE more", -1, x.hole(9, true));
        edges.due("a FAN more", -1, x.blow(0, 0, 0));
        edges.due("seven", 7, x.count(4));
    }

    private void fans() {
        ChaffInTheWind x = Barns.low(5);
        x.blow(16, 6, 6);
        x.blow(16, 5, 6);
        x.blow(16, 0, 4);
        x.blow(16, 7, 11);
        x.blow(16, 0, 11);
        int[] due = {2, 3, 0, 0, 3};
        for (int i = 0; i < 5; i++) {
            edges.due("FAN " + i, due[i], x.stays(i));
        }
        x.set(2, 6);
        edges.due("as they are now", 1, x.stays(0));
        x.set(2, 11);
        edges.due("not OUT", 1, x.stays(4));
        Check.text(x, "y6").barn();
        edges.due("not OUT of a shorter barn", 1, x.stays(4));
        edges.due("not in YARDS there are no more", 0, x.stays(3));
    }

    private void sieves() {
        ChaffInTheWind x = Check.barn("c9,1,0*5;h9,30,0*5;w9,60,0*5");
        edges.due("0", -1, x.hole(0, true));
        edges.due("61", -1, x.hole(61, true));
        int[] holes = {1, 30, 31, 60};
        int[] over = {7, 6, 4, 4};
        for (int i = 0; i < 4; i++) {
            x = Check.barn("c9,1,0*5;h9,30,0*5;w9,60,0*5");
            edges.due("over " + holes[i], 0, x.hole(holes[i], true));
            edges.due("under " + holes[i], 1, x.hole(holes[i], false));
            edges.due("not less than " + holes[i], over[i], x.stays(0));
            edges.due("less than " + holes[i], 7 - over[i], x.stays(1));
        }
    }

    // ---- the ROW, refused calls

    private void lastRow() {
        ChaffInTheWind x = Barns.busy();
        edges.row("of lands", x, 1, 5, 0);
        x.has(0, 0);
        x.set(0, 2);
        x.gather(0, 1, 0);
        x.mix(0, 5);
        x.price(0, 0);
        x.stays(0);
        x.kin(0);
        x.serves(0, 1);
        x.needed(1, 0, 0);
        x.grains(1, 1);
        x.wind();
        edges.row("it stays with calls that do not say so", x, 1, 5, 0);
        x.go(1, 0);
        edges.row("of go", x, 0);
        edges.due("at first none", 0, new ChaffInTheWind().count(8));
    }

    private void fractions() {
        ChaffInTheWind x = Check.barn("c1,1,0*6;w1,1,0*4");
        x.sample(0, 1);
        edges.row("6 of 10", x, 3, 5);
        x.sheet(0, 2, 2, 0, 4);
        x.sample(0, 4);
        edges.row("0", x, 0, 1);
        x.sheet(0, 2, 2, 4, -4);
        x.sample(0, 4);
        edges.row("24 of 24", x, 1, 1);
        x.sheet(0, 2, 0, 0, 0);
        x.heavy(0);
        edges.row("of nothing", x, 0, 1, 0);
    }

    /** A grain in each of the YARDS 0, 2, 4: the rows of marks 1 3, 1 4, 2 3, 2 4 bring as much. */
    private void rowsCompared() {
        ChaffInTheWind x = Barns.one("c9,1,0*3;y6");
        x.set(3, 1);
        for (int yard = 0; yard < 6; yard += 2) {
            x.set(2, yard);
            x.go(0, 1);
        }
        Check.says(x, 0, "n=1");
        edges.due("three heaps", 3, x.marks(4));
        edges.row("three heaps", x, 3, 1, 3);
    }

    private void refused() {
        ChaffInTheWind full = Check.text(Barns.busy(), "y5" + "y".repeat(75));
        edges.due("sign", -1, full.sign(0));
        edges.due("THE TEXT of sign", 77, full.count(9));
        full.end(2);
        edges.same("sign changes nothing", Barns.busy(), full);
        edges.unanswered("end(3)", 0, x -> x.end(3) ? 1 : 0);
        edges.refused("set(0, 0)", x -> x.set(0, 0));
        edges.refused("sheet(6, 0, 1, 1, 1)", x -> x.sheet(6, 0, 1, 1, 1));
        edges.refused("lands(4, 0)", x -> x.lands(4, 0));
        edges.refused("go(0, 501)", x -> x.go(0, 501));
        edges.refused("gather(0, 6, 0)", x -> x.gather(0, 6, 0));
        edges.refused("mix(0, 0)", x -> x.mix(0, 0));
        edges.refused("sieve(0, 61, 1)", x -> x.sieve(0, 61, 1));
        edges.refused("stroke(0, 10, 1)", x -> x.stroke(0, 10, 1));
        edges.refused("blow(61, 0, 1)", x -> x.blow(61, 0, 1));
        edges.refused("hole(61, true)", x -> x.hole(61, true));
        edges.unanswered("keep(3)", 0, x -> x.keep(3) ? 1 : 0);
        edges.unanswered("again(0)", 0, x -> x.again(0) ? 1 : 0);
    }

    private void emptied() {
        String[] told = {"", "c9,9,9*9", "c9", "5*1", "n", "(".repeat(80)};
        for (String text : told) {
            for (int call = 0; call < 7; call++) {
                ChaffInTheWind x = Check.text(Barns.busy(), text);
                if (call == 0) {
                    x.barn();
                } else if (call == 1) {
                    x.wind();
                } else {
                    x.says(call - 2);
                }
                edges.due("call " + call + " of '" + text + "'", 0, x.count(9));
            }
        }
    }

    private void noneFirst() {
        edges.refused("sheet(6, 0, -1, 1, 1)", x -> x.sheet(6, 0, -1, 1, 1));
        edges.refused("sheet(6, 3, 0, 1, 1)", x -> x.sheet(6, 3, 0, 1, 1));
        edges.refused("fan(3, -1)", x -> x.fan(3, -1));
        edges.refused("sends(4, 6)", x -> x.sends(4, 6));
        edges.refused("bushel(3, 1000)", x -> x.bushel(3, 1000));
        edges.refused("order(3, 100, 100)", x -> x.order(3, 100, 100));
        edges.refused("order(1, 101, 100)", x -> x.order(1, 101, 100));
        edges.refused("needed(3, 100, 100)", x -> x.needed(3, 100, 100));
        edges.refused("sample(3, 5)", x -> x.sample(3, 5));
        edges.refused("grains(3, 0)", x -> x.grains(3, 0));
        ChaffInTheWind y = Check.barn("c9,1,0*5");
        edges.due("find without PASSES", -1, y.find(2));
        y.sheet(0, 2, 1, 999, 0);
        y.sheet(1, 2, 1, 999, 0);
        y.sheet(2, 2, 1, 999, 0);
        y.mix(0, 1);
        y.mix(1, 2);
        edges.due("sample of more than 2000", -1, y.sample(2, 0));
        edges.due("grains of more than 2000", -1, y.grains(2, 101));
    }

    private void textsAside() {
        ChaffInTheWind x = new ChaffInTheWind();
        edges.due("another number, wrong text", -100, Check.says(x, 4, "+"));
        edges.due("another number, no text", -100, x.says(4));
        edges.due("the sign at 1", -2, Check.text(x, "y").barn());
        edges.due("the sign at 0", -1, Check.wind(x, "y"));
    }

    private void rowStays() {
        edges.unanswered("fan", -2, x -> {
            x.set(1, 40);
            long answer = x.fan(1, 2);
            x.set(1, 0);
            return answer;
        });
        edges.unanswered("sends", -99, x -> x.sends(0, 0));
        edges.unanswered("bushel", -2, x -> x.bushel(3, 1));
        edges.unanswered("away", -2, x -> x.away(3));
        edges.unanswered("order", -2, x -> x.order(1, 100, 100));
        edges.unanswered("sample", -2, x -> x.sample(3, 1));
        edges.unanswered("best", -1, x -> x.best(6));
        ChaffInTheWind y = Check.barn("c9,1,0*999;c9,1,0*999;c9,1,0*3");
        y.lands(0, 0);
        edges.due("find", -2, y.find(1));
        edges.due("sample", -3, y.sample(0, 1));
        edges.row("it stays", y, 10, 0, 20);
    }

    private void meantBelowZero() {
        ChaffInTheWind x = Barns.low(5);
        x.never();
        edges.due("sends", -1, x.sends(1, 4));
        edges.row("sends", x, 16);
        x = Check.barn("c9,1,0*5;w1,1,4*3;y3");
        x.set(0, 400);
        x.set(2, 1);
        edges.due("best", -1, x.best(0));
        edges.row("best", x, 5, 0);
        Check.wind(x, "-1*1");
        edges.due("blows", -1, x.blows());
        edges.row("blows", x, 0, 1);
        Check.says(x, 0, "n+w");
        edges.due("away", 0, x.away(0));
        edges.row("away", x, -5);
    }
}
