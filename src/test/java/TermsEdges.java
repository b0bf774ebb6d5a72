/** Sentences of 'Terms', point 1: SORTS, THE BARN, SETTINGS, a FALL, THE WIND, a DRAW, a THROW. */
final class TermsEdges {
    private static final String LINE = "c1,1,1*1;";

    private final Edges edges;

    TermsEdges(Edges edges) {
        this.edges = edges;
    }

    void run() {
        of("SORTS 0 .. (at most 10)", this::sorts);
        of("a KIND (0 corn, 1 chaff, 2 weed, 3 stone)", this::kinds);
        of("WEIGHT 1 .. 99", this::weights);
        of("SIZE 1 .. 60", this::sizes);
        of("DRAG 0 .. 60", this::drags);
        of("YARDS 0 .. less than LONG", this::yards);
        of("(LONG 2 .. 24, at first 12)", this::lengths);
        of("HEAPS 0 .. 5", this::heaps);
        of("OUT: those that went out of the door", this::out);
        of("THE BARN is a text of at most 76 signs", this::barnSigns);
        of("what they tell comes behind what there is", this::behind);
        of("MANY (0 .. 999: so many grains of it come to HEAP 0)", this::many);
        of("all that lies in YARDS is gone then", this::gone);
        of("STAND is LONG less 1 at most", this::standInShorter);
        of("Numbers of 1 or 2 digits, MANY of 1 to 3", this::digits);
        of("HEIGHT 1 .. 400 (at first 100)", () -> setting(0, 1, 400, 100));
        of("SLANT -40 .. 40 (at first 0)", () -> setting(1, -40, 40, 0));
        of("STAND, a YARD (at first 0)", this::stand);
        of("SHOVEL 1 .. 99 (at first 20)", () -> setting(3, 1, 99, 20));
        of("WET 0 .. 50 (at first 0)", () -> setting(4, 0, 50, 0));
        falls();
        winds();
        draws();
        throwsOfGrains();
    }

    private void of(String sentence, Runnable test) {
        edges.of(Edges.TERMS, sentence, test);
    }

    // ---- SORTS, YARDS, HEAPS

    private void sorts() {
        ChaffInTheWind x = Check.barn(LINE.repeat(7) + "c1,1,1*1");
        edges.due("nine", 1, Check.text(x, "h2,2,2*2").barn());
        edges.due("ten", 1, Check.text(x, "s9,2,0*7").barn());
        edges.due("all ten", 10, x.count(0));
        edges.due("the tenth", 7, x.has(0, 9));
        edges.due("the eleventh", -1, Check.text(x, "s9,2,0*7").barn());
        edges.due("no eleventh", 10, x.count(0));
        edges.due("no grains of it", -1, x.has(0, 10));
    }

    private void kinds() {
        ChaffInTheWind x = Check.barn("c1,1,1*1;h1,1,1*1;w1,1,1*1;s1,1,1*1");
        for (int kind = 0; kind < 4; kind++) {
            edges.due("KIND", kind, x.sort(kind, 0));
        }
    }

    private void weights() {
        ChaffInTheWind x = new ChaffInTheWind();
        edges.due("1 and 99", 2, Check.text(x, "c1,9,9*1;c99,9,9*1").barn());
        edges.due("1", 1, x.sort(0, 1));
        edges.due("99", 99, x.sort(1, 1));
        edges.due("0", -2, Check.text(x, "c0,9,9*1").barn());
        edges.due("100", -4, Check.text(x, "c100,9,9*1").barn());
    }

    private void sizes() {
        ChaffInTheWind x = new ChaffInTheWind();
        edges.due("1 and 60", 2, Check.text(x, "c9,1,9*1;c9,60,9*1").barn());
        edges.due("1", 1, x.sort(0, 2));
        edges.due("60", 60, x.sort(1, 2));
        edges.due("0", -4, Check.text(x, "c9,0,9*1").barn());
        edges.due("61", -5, Check.text(x, "c9,61,9*1").barn());
    }

    private void drags() {
        ChaffInTheWind x = new ChaffInTheWind();
        edges.due("0 and 60", 2, Check.text(x, "c9,9,0*1;c9,9,60*1").barn());
        edges.due("0", 0, x.sort(0, 3));
        edges.due("60", 60, x.sort(1, 3));
        edges.due("61", -7, Check.text(x, "c9,9,61*1").barn());
        edges.due("below 0", -6, Check.text(x, "c9,9,-1*1").barn());
    }

    private void yards() {
        ChaffInTheWind x = Check.barn("c9,1,0*5;y3");
        edges.due("the last YARD", 2, x.set(2, 2) + x.set(2, 0));
        edges.due("no more YARDS", -1, x.set(2, 3));
        edges.due("gathers to the last", 0, x.gather(0, 2, 0));
        edges.due("no more YARDS to gather", -1, x.gather(0, 3, 0));
    }

    private void lengths() {
        ChaffInTheWind x = new ChaffInTheWind();
        edges.due("at first", 12, x.count(1));
        edges.due("1", -2, Check.text(x, "y1").barn());
        edges.due("25", -3, Check.text(x, "y25").barn());
        edges.due("12 stays", 12, x.count(1));
        edges.due("2", 1, Check.text(x, "y2").barn());
        edges.due("2", 2, x.count(1));
        edges.due("24", 1, Check.text(x, "y24").barn());
        edges.due("24", 24, x.count(1));
    }

    private void heaps() {
        ChaffInTheWind x = Check.barn("c9,1,0*5");
        edges.due("HEAP 0", 5, x.has(0, 0));
        edges.due("to HEAP 5", 5, x.mix(0, 5));
        edges.due("HEAP 5", 5, x.has(5, 0));
        edges.due("HEAP 6", -1, x.has(6, 0));
        edges.due("HEAP -1", -1, x.has(-1, 0));
    }

    private void out() {
        ChaffInTheWind x = Barns.low(11);
        Check.wind(x, "16*9");
        x.go(0, 1);
        edges.due("OUT", 3, x.count(7));
        edges.due("OUT of one SORT", 3, x.lies(12, 1));
        edges.due("not in YARDS", 5, x.count(6));
        edges.due("not in HEAPS", 0, x.count(5));
        edges.due("they are not gathered", 5, x.gather(0, 11, 2));
        edges.due("still OUT", 3, x.count(7));
    }

    // ---- THE BARN

    private void barnSigns() {
        String seventyThree = "c10,1,1*1;" + LINE.repeat(7);
        edges.due("76", 9, Check.text(new ChaffInTheWind(), seventyThree + "y12").barn());
        edges.due("77", -77, Check.text(new ChaffInTheWind(), seventyThree + "y12;").barn());
        edges.due("80", -77, Check.text(new ChaffInTheWind(), seventyThree + "y12;y12").barn());
    }

    private void behind() {
        ChaffInTheWind x = Check.barn("c9,8,7*6");
        edges.due("one more", 1, Check.text(x, "h1,2,3*4").barn());
        edges.due("two", 2, x.count(0));
        edges.due("the first is as it was", 9, x.sort(0, 1));
        edges.due("the second", 1, x.sort(1, 1));
        edges.due("grains of the first", 6, x.has(0, 0));
    }

    private void many() {
        ChaffInTheWind x = Check.barn("c9,1,0*0;h1,1,4*999;w1,1,4*1");
        edges.due("0", 0, x.has(0, 0));
        edges.due("999", 999, x.has(0, 1));
        edges.due("1", 1, x.has(0, 2));
        edges.due("no other HEAP", 1000, x.count(5));
    }

    private void gone() {
        ChaffInTheWind x = Barns.low(11);
        Check.wind(x, "16*9");
        x.go(0, 1);
        x.sheet(3, 2, 2, 4, 0);
        edges.due("another SORT alone", 1, Check.text(x, "w1,1,4*0").barn());
        edges.due("lies still", 5, x.lies(11, 0));
        edges.due("the same LONG", 1, Check.text(x, "y12").barn());
        edges.due("nothing lies", 0, x.count(6));
        edges.due("HEAPS stay", 8, x.count(5));
        edges.due("OUT stays", 3, x.count(7));
        Check.text(x, "y24").barn();
        Check.wind(x, "0*1");
        x.set(2, 23);
        x.go(3, 1);
        edges.due("in the last of 24", 8, x.count(6));
        edges.due("a shorter one", 1, Check.text(x, "y2").barn());
        edges.due("nothing lies", 0, x.count(6));
        edges.due("a longer one", 1, Check.text(x, "y24").barn());
        edges.due("nothing lies there either", 0, x.lies(23, 0));
    }

    private void standInShorter() {
        ChaffInTheWind x = new ChaffInTheWind();
        x.set(2, 8);
        Check.text(x, "y9").barn();
        edges.due("8 of 9", 8, x.set(2, 8));
        Check.text(x, "y8").barn();
        edges.due("7 of 8", 7, x.set(2, 7));
        Check.text(x, "y2").barn();
        edges.due("1 of 2", 1, x.set(2, 1));
        Check.text(x, "y24").barn();
        edges.due("a longer one moves nothing", 1, x.set(2, 1));
    }

    private void digits() {
        ChaffInTheWind x = new ChaffInTheWind();
        edges.due("two each, three", 2, Check.text(x, "c01,02,03*004;y09").barn());
        edges.due("one each", 2, Check.text(x, "h1,2,3*4;y9").barn());
        String[] told = {"c011,2,3*4", "c1,022,3*4", "c1,2,033*4", "c1,2,3*0444", "y023"};
        int[] third = {3, 5, 7, 10, 3};
        for (int i = 0; i < told.length; i++) {
            edges.due("one digit more: " + told[i], -1 - third[i], Check.text(x, told[i]).barn());
        }
        edges.due("none: c,2,3*4", -2, Check.text(x, "c,2,3*4").barn());
    }

    // ---- SETTINGS

    private void setting(int what, int least, int most, int first) {
        ChaffInTheWind x = new ChaffInTheWind();
        edges.due("at first", first, x.set(what, least));
        edges.due("the least", least, x.set(what, most));
        edges.due("less", -1, x.set(what, least - 1));
        edges.due("more", -1, x.set(what, most + 1));
        edges.due("the most", most, x.set(what, first));
    }

    private void stand() {
        setting(2, 0, 11, 0);
        ChaffInTheWind x = new ChaffInTheWind();
        Check.text(x, "y24").barn();
        edges.due("in a longer barn", 0, x.set(2, 23));
        edges.due("in a longer barn", -1, x.set(2, 24));
        Check.text(x, "y2").barn();
        edges.due("in a shorter barn", -1, x.set(2, 2));
    }

    // ---- a FALL

    private void falls() {
        of("A FALL of a SORT in a WIND (-60 .. 60)", this::windsOfFalls);
        of("W is 4 times (WEIGHT and WET)", this::wet);
        of("D the less of DRAG and W", this::dragAtMost);
        of("f grows by 2, then is less by D times f by W, cut", this::slowed);
        of("v grows by D times (WIND less v) by W, cut to 0", this::drifts);
        of("h is less by f (by 1, if that is less than 1)", this::atLeastOne);
        of("till h is 0 or below", this::tillTheGround);
        of("in YARD STAND and x by 16 (cut down)", this::yardCutDown);
        of("below 0 in YARD 0", this::belowTheFirst);
        of("at LONG or above OUT", this::aboveTheLast);
    }

    private void windsOfFalls() {
        ChaffInTheWind x = Barns.low(5);
        edges.due("60", 8, x.lands(1, 60));
        edges.due("-60", 1, x.lands(1, -60));
        edges.due("61", -1, x.lands(1, 61));
        edges.due("-61", -1, x.lands(1, -61));
    }

    /** WEIGHT 1 and DRAG 4: with no WET all of the WIND, with WET 1 half of it, with WET 50 4 of 204. */
    private void wet() {
        ChaffInTheWind x = Barns.one("h1,1,4*1");
        x.lands(0, 51);
        edges.row("0", x, 1, 51, 0);
        x.set(4, 1);
        x.lands(0, 51);
        edges.row("1", x, 1, 25, 1);
        x.set(4, 50);
        x.lands(0, 51);
        edges.row("50", x, 1, 1, 2);
        x.lands(0, 50);
        edges.row("50, less WIND", x, 1, 0, 2);
    }

    private void dragAtMost() {
        ChaffInTheWind x = Check.barn("h1,1,60*1;h1,1,4*1;h1,1,3*1;h15,1,60*1;h16,1,60*1");
        x.set(0, 2);
        x.lands(0, 7);
        edges.row("more than W", x, 2, 14, 0);
        x.lands(1, 7);
        edges.row("W", x, 2, 14, 0);
        x.lands(2, 8);
        edges.row("less than W", x, 2, 6 + 7, 1);
        x.lands(3, 60);
        edges.row("60 of 60", x, 2, 120, 0);
        x.lands(4, 60);
        edges.row("60 of 64", x, 2, 56 + 59, 1);
    }

    /** W 8 and D 3: f is 2 (less 0.75), then 4 (less 1.5), 5 (less 1.9). */
    private void slowed() {
        ChaffInTheWind x = Check.barn("c2,1,3*1;c2,1,4*1");
        int[][] due = {{1, 1, 2}, {2, 1, 2}, {3, 2, 3}, {5, 2, 3}, {6, 3, 4}, {9, 3, 4}};
        for (int[] d : due) {
            x.set(0, d[0]);
            x.lands(0, 0);
            edges.row("HEIGHT " + d[0], x, d[1], 0, d[2]);
        }
        x.set(0, 3);
        x.lands(1, 0);
        edges.row("just half of it, then 1.5", x, 2, 0, 2);
    }

    private void drifts() {
        ChaffInTheWind x = Check.barn("c2,1,3*1");
        x.set(0, 1);
        int[][] due = {{2, 0}, {3, 1}, {5, 1}, {6, 2}, {-2, 0}, {-3, -1}, {-5, -1}, {-6, -2}};
        for (int[] d : due) {
            x.lands(0, d[0]);
            edges.row("WIND " + d[0], x, 1, d[1], 2);
        }
        x.set(1, 5);
        x.lands(0, 0);
        edges.row("against SLANT", x, 1, 5 - 1, 2);
        x.set(1, -5);
        x.lands(0, 0);
        edges.row("against SLANT below 0", x, 1, -5 + 1, 2);
    }

    private void atLeastOne() {
        ChaffInTheWind x = Check.barn("h1,1,4*1;h1,1,3*1");
        x.set(0, 400);
        x.lands(0, 1);
        edges.row("f is 0", x, 400, 400, 0);
        x.set(0, 3);
        x.lands(0, 0);
        edges.row("f is 0", x, 3, 0, 0);
        x.lands(1, 0);
        edges.row("f is 1", x, 3, 0, 1);
    }

    /** Without DRAG f is 2, 4, 6: h is 0 behind 2, 6, 12. */
    private void tillTheGround() {
        ChaffInTheWind x = Check.barn("s9,1,0*1");
        int[][] due = {{1, 1}, {2, 1}, {3, 2}, {6, 2}, {7, 3}, {12, 3}, {13, 4}, {380, 19}, {400, 20}};
        for (int[] d : due) {
            x.set(0, d[0]);
            x.lands(0, 0);
            edges.row("HEIGHT " + d[0], x, d[1], 0, 2 * d[1]);
        }
    }

    private void yardCutDown() {
        ChaffInTheWind x = Barns.low(5);
        int[][] due = {{0, 5}, {15, 5}, {16, 6}, {31, 6}, {32, 7}, {-1, 4}, {-16, 4}, {-17, 3}, {-32, 3}, {-33, 2}};
        for (int[] d : due) {
            edges.due("WIND " + d[0], d[1], x.lands(1, d[0]));
        }
    }

    private void belowTheFirst() {
        ChaffInTheWind x = Barns.low(1);
        edges.due("0", 0, x.lands(1, -16));
        edges.due("-1", 0, x.lands(1, -17));
        x.set(0, 400);
        edges.due("far below", 0, x.lands(1, -60));
    }

    private void aboveTheLast() {
        ChaffInTheWind x = Barns.low(10);
        edges.due("LONG less 1", 11, x.lands(1, 31));
        edges.due("LONG", 12, x.lands(1, 32));
        edges.due("more", 12, x.lands(1, 48));
        x.set(0, 400);
        edges.due("far above", 12, x.lands(1, 60));
        Check.text(x, "y24").barn();
        x.set(0, 1);
        x.set(2, 23);
        edges.due("24", 24, x.lands(1, 16));
    }

    // ---- THE WIND

    private void winds() {
        of("THE WIND is a text of at most 40 signs", this::windSigns);
        of("(at first empty: always 0)", this::windAtFirst);
        of("perhaps -, a number (0 .. 60)", this::windNumbers);
        of("TIMES (1 .. 99)", this::times);
        of("perhaps ~ and a number (1 .. 20)", this::spreads);
        of("(put to -60 .. 60)", this::putWinds);
        of("behind the last LINE from the first one on", this::fromTheFirst);
        of("from the first one on. Numbers of 1 or 2 digits", this::windDigits);
    }

    private void windSigns() {
        String thirtySix = "0*1;".repeat(9);
        edges.due("40", 10, Check.wind(new ChaffInTheWind(), thirtySix + "0*12"));
        edges.due("41", -41, Check.wind(new ChaffInTheWind(), thirtySix + "10*12"));
        edges.due("80", -41, Check.wind(new ChaffInTheWind(), "0*1;".repeat(20)));
    }

    private void windAtFirst() {
        ChaffInTheWind x = Barns.low(5);
        edges.due("none", 0, x.blows());
        x.go(0, 2);
        edges.due("all fall in 0", 8, x.lies(5, 0) + x.lies(5, 1));
        edges.due("R is not drawn from", 1, x.seed(1));
        Check.wind(x, "30*5~4");
        x.gather(0, 11, 0);
        edges.due("empty again", 0, Check.wind(x, ""));
        x.go(0, 1);
        edges.due("all fall in 0", 8, x.lies(5, 0) + x.lies(5, 1));
    }

    private void windNumbers() {
        ChaffInTheWind x = new ChaffInTheWind();
        String[] told = {"0*1", "-0*1", "60*1", "-60*1", "1*1", "-1*1"};
        int[] due = {0, 0, 60, -60, 1, -1};
        for (int i = 0; i < told.length; i++) {
            edges.due(told[i], 1, Check.wind(x, told[i]));
            edges.due(told[i], due[i], x.blows());
        }
        edges.due("61", -2, Check.wind(x, "61*1"));
        edges.due("-61", -3, Check.wind(x, "-61*1"));
        edges.due("--1", -2, Check.wind(x, "--1*1"));
    }

    private void times() {
        ChaffInTheWind x = new ChaffInTheWind();
        edges.due("1", 1, Check.wind(x, "5*1"));
        x.blows();
        edges.row("1", x, 0, 1);
        edges.due("99", 1, Check.wind(x, "5*99"));
        x.blows();
        edges.row("99", x, 0, 99);
        edges.due("0", -3, Check.wind(x, "5*0"));
        edges.due("100", -5, Check.wind(x, "5*100"));
    }

    private void spreads() {
        ChaffInTheWind x = Barns.low(0);
        edges.due("1", 1, Check.wind(x, "15*1~1"));
        x.odds(1, 0, 0, 0);
        edges.row("1", x, 2, 3);
        edges.due("20", 1, Check.wind(x, "15*1~20"));
        x.odds(1, 0, 0, 0);
        edges.row("20", x, 21, 41);
        for (int i = 0; i < 3; i++) {
            edges.due("none", 1, Check.wind(x, "15*1"));
            x.odds(1, 0, 0, 0);
            edges.row("none", x, 1, 1);
        }
        edges.due("0", -5, Check.wind(x, "5*1~0"));
        edges.due("21", -6, Check.wind(x, "5*1~21"));
        edges.due("no number", -5, Check.wind(x, "5*1~"));
    }

    /** From HEIGHT 27 this chaff flies to another YARD in the WIND 59 than in 60, and in -59 than in -60. */
    private void putWinds() {
        ChaffInTheWind x = Barns.one("h1,1,1*9;y24");
        x.set(0, 27);
        x.set(3, 1);
        edges.due("59", 15, x.lands(0, 59));
        Check.wind(x, "60*1~20");
        x.seed(Barns.seedFor(41, 40));
        x.go(0, 1);
        edges.due("80", 1, x.lies(16, 0));
        x.seed(Barns.seedFor(41, 0));
        x.go(0, 1);
        edges.due("40", 1, x.lies(10, 0));
        x.set(2, 23);
        edges.due("-59", 7, x.lands(0, -59));
        Check.wind(x, "-60*1~20");
        x.seed(Barns.seedFor(41, 0));
        x.go(0, 1);
        edges.due("-80", 1, x.lies(6, 0));
    }

    private void fromTheFirst() {
        ChaffInTheWind x = Barns.one("c9,1,0*99");
        x.set(3, 1);
        Check.wind(x, "1*2;2*1");
        int[] due = {1, 1, 2, 1, 1, 2, 1};
        for (int told = 0; told < 4; told++) {
            Check.wind(x, "1*2;2*1");
            for (int wind : due) {
                edges.due("told anew " + told, wind, x.blows());
                x.go(0, 1);
            }
        }
    }

    private void windDigits() {
        ChaffInTheWind x = new ChaffInTheWind();
        edges.due("two each", 2, Check.wind(x, "01*02~03;-04*05~06"));
        edges.due("three", -3, Check.wind(x, "011*2"));
        edges.due("three of TIMES", -5, Check.wind(x, "1*022"));
        edges.due("three behind ~", -7, Check.wind(x, "1*2~012"));
        edges.due("none", -1, Check.wind(x, "*2"));
    }

    // ---- a DRAW

    private void draws() {
        of("by ~ k a DRAW of (2 k and 1) less k more", this::spreadAround);
        of("R = R times 1103515245 + 12345 (as ints; R at first 1)", this::wrapsAround);
        of("(R without sign, by 65536) % n", this::withoutSign);
        of("THROWS are counted (at first 0) since THE WIND was told", this::throwsCounted);
    }

    /** From HEIGHT 16 the chaff flies a YARD for each 1 of the WIND. */
    private ChaffInTheWind yardByYard(String wind) {
        ChaffInTheWind x = Barns.one("h1,1,4*9;y24");
        x.set(0, 16);
        x.set(3, 1);
        Check.wind(x, wind);
        return x;
    }

    private void spreadAround() {
        for (int draw = 0; draw < 5; draw++) {
            ChaffInTheWind x = yardByYard("10*1~2");
            x.seed(Barns.seedFor(5, draw));
            x.go(0, 1);
            edges.due("a DRAW of " + draw, 1, x.lies(8 + draw, 0));
        }
    }

    private void wrapsAround() {
        ChaffInTheWind x = yardByYard("10*1~9");
        edges.due("at first", 1, x.seed(1));
        int[][] due = {{1, 1103527590}, {Integer.MAX_VALUE, 1043980748}, {Integer.MIN_VALUE, -2147471303}, {-1, -1103502900}};
        for (int[] d : due) {
            x.seed(d[0]);
            x.go(0, 1);
            edges.due("behind " + d[0], d[1], x.seed(0));
        }
    }

    private void withoutSign() {
        int[] all = {-1, 0, 1, 2, 3, 4, 5, Integer.MAX_VALUE, Integer.MIN_VALUE, -77};
        for (int r : all) {
            long unsigned = r * 1103515245L + 12345 & 0xffffffffL;
            ChaffInTheWind x = yardByYard("10*1~9");
            x.seed(r);
            x.go(0, 1);
            edges.due("behind R " + r, 1, x.lies(1 + (int) (unsigned / 65536 % 19), 0));
        }
    }

    private void throwsCounted() {
        ChaffInTheWind x = Barns.one("c9,1,0*99");
        x.set(3, 1);
        edges.due("at first", 0, x.count(2));
        x.go(0, 5);
        edges.due("without a WIND", 5, x.count(2));
        Check.wind(x, "1*2");
        edges.due("told", 0, x.count(2));
        x.go(0, 3);
        edges.due("counted", 3, x.count(2));
        Check.wind(x, "");
        edges.due("an empty one", 0, x.count(2));
    }

    // ---- a THROW

    private void throwsOfGrains() {
        of("of which it has the most still (of equal ones the first)", this::theMost);
        of("SHOVEL of them or all it has", this::shovelOrAll);
        of("all fall in the WIND of this THROW", this::oneWind);
        of("Without grains there is none", this::withoutGrains);
    }

    private void theMost() {
        ChaffInTheWind x = Barns.one("w9,1,0*2;c9,1,0*3;s9,1,0*3");
        x.set(3, 1);
        int[] order = {1, 2, 0, 1, 2, 0, 1, 2};
        for (int i = 0; i < order.length; i++) {
            x.go(0, 1);
            int[] left = {2, 3, 3};
            for (int j = 0; j <= i; j++) {
                left[order[j]]--;
            }
            for (int s = 0; s < 3; s++) {
                edges.due("behind " + (i + 1) + " grains SORT " + s, left[s], x.has(0, s));
            }
        }
    }

    private void shovelOrAll() {
        for (int grains = 6; grains <= 8; grains++) {
            ChaffInTheWind x = Barns.one("c9,1,0*" + grains);
            x.set(3, 7);
            x.go(0, 1);
            edges.due("of " + grains, Math.min(7, grains), x.count(6));
        }
        ChaffInTheWind x = Barns.one("c9,1,0*999");
        x.set(3, 99);
        x.go(0, 1);
        edges.due("99", 99, x.count(6));
        x.set(3, 1);
        x.go(0, 1);
        edges.due("1", 100, x.count(6));
    }

    private void oneWind() {
        ChaffInTheWind x = Barns.one("h1,1,4*60;y24");
        x.set(0, 16);
        Check.wind(x, "12*9~9");
        x.set(3, 30);
        for (int i = 0; i < 2; i++) {
            x.go(0, 1);
            int yards = 0;
            for (int yard = 0; yard < 24; yard++) {
                yards += x.lies(yard, 0) == 30 ? 1 : 0;
            }
            edges.due("in one YARD", 1, yards);
            x.gather(0, 23, 5);
        }
    }

    private void withoutGrains() {
        ChaffInTheWind x = Barns.one("c9,1,0*1");
        Check.wind(x, "5*9~9");
        x.seed(77);
        edges.due("of an empty HEAP", 0, x.go(3, 5));
        edges.due("none is counted", 0, x.count(2));
        edges.due("no DRAW", 77, x.seed(77));
        edges.due("one grain, one THROW", 1, x.go(0, 5));
        edges.due("one is counted", 1, x.count(2));
    }
}
