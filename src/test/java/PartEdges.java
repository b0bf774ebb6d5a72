/** Promises 19 to 27: what parts what. */
final class PartEdges {
    private static final int MOST = Integer.MAX_VALUE;
    private static final int LEAST = Integer.MIN_VALUE;

    private final Edges edges;

    PartEdges(Edges edges) {
        this.edges = edges;
    }

    void run() {
        edges.of(19, "Whether some WIND (-60 .. 60) lets two SORTS LAND in YARDS apart", this::partedAtTheEnds);
        edges.of(19, "(OUT is like a YARD)", this::outIsLikeAYard);
        edges.of(19, "(of equal ones the least size, then below 0)", this::farthest);
        edges.of(19, "0 (the ROW is empty)", this::notParted);
        edges.of(19, "NONE: none such", this::partsNone);
        edges.of(20, "Pairs of a SORT of corn and another one that is none that no WIND parts", this::pairs);
        edges.of(20, "the first pair (the corn first; none without)", this::firstPair);
        edges.of(21, "The WIND (-60 .. 60)", this::bestAtTheEnds);
        edges.of(21, "the YARDS that would have corn and nothing else had the most grains", this::cornAndNothingElse);
        edges.of(21, "of equal ones the least size, then below 0", this::bestOfEqualOnes);
        edges.of(21, "corn that would go OUT", this::cornOut);
        edges.of(21, "NONE: another HEAP", this::bestNone);
        edges.of(22, "The HEIGHT (20, 40, .. 400)", this::heights);
        edges.of(22, "SLANT (-40, -30, .. 40)", this::slants);
        edges.of(22, "of equal ones the least HEIGHT, then SLANT", this::aimOfEqualOnes);
        edges.of(22, "NONE: others", this::aimNone);
        edges.of(23, "A fan turned t times (0 .. 30) blows 2 t", this::turns);
        edges.of(23, "no more than lost grains of corn of a HEAP would go OUT", this::lost);
        edges.of(23, "chaff that would stay in YARDS with corn then", this::chaffWithCorn);
        edges.of(23, "-2: none", this::noTurns);
        edges.of(23, "NONE: others (lost below 0)", this::fanNone);
        edges.of(24, "LINES of THE WIND (bits) in which, without ~, two SORTS LAND in YARDS apart", this::linesThatServe);
        edges.of(24, "NONE: none such", this::servesNone);
        edges.of(25, "(2 k and 1 of them, each as likely; one without)", this::spreads);
        edges.of(25, "a SORT LANDS in YARDS from .. to (not OUT)", this::oddsOfYards);
        edges.of(25, "NONE: others", this::oddsNone);
        edges.of(26, "Other SORTS (bits) that LAND in all WINDS (-60 .. 60) just where one does", this::kin);
        edges.of(26, "NONE: none such", this::kinNone);
        edges.of(27, "in which a SORT LANDS in a YARD (LONG: OUT)", this::sendsOut);
        edges.of(27, "of several the least size, then below 0: it; the ROW: how many WINDS", this::sends);
        edges.of(27, "-99: none", this::sendsNowhere);
        edges.of(27, "NONE: others", this::sendsNone);
    }

    /** SORT 0 stays where one stands; SORT 1 flies 16 in the WIND 60 alone, SORT 2 -1 in the WIND -60 alone. */
    private static ChaffInTheWind partedAtAnEnd(int stand) {
        ChaffInTheWind x = Check.barn("c9,1,0*5;w15,1,16*4;h15,1,1*3");
        x.set(0, 1);
        x.set(2, stand);
        return x;
    }

    // ---- promises 19, 20

    private void partedAtTheEnds() {
        ChaffInTheWind x = partedAtAnEnd(0);
        edges.due("60 alone", 1, x.parts(0, 1));
        edges.row("60 alone", x, 60, 1);
        x = partedAtAnEnd(1);
        edges.due("-60 alone", 1, x.parts(0, 2));
        edges.row("-60 alone", x, -60, 1);
        x = Barns.low(5);
        x.set(1, -40);
        x.set(2, 0);
        edges.due("all but those of YARD 0", 121 - 76, x.parts(0, 1));
        x.set(1, 16);
        edges.due("all but 16 .. 31", 121 - 16, x.parts(0, 1));
    }

    private void outIsLikeAYard() {
        ChaffInTheWind x = Barns.low(10);
        x.set(0, 2);
        edges.due("in YARD 10 or not", 121 - 8, x.parts(0, 1));
        edges.row("far from OUT", x, -57, 8);
        x = Barns.low(0);
        Check.text(x, "y2").barn();
        x.set(0, 400);
        edges.due("in OUT or in YARD 0", 60, x.parts(0, 1));
        edges.row("OUT is 2 off YARD 0", x, 1, 2);
        x.set(1, 40);
        edges.due("both OUT or apart", 61, x.parts(0, 1));
        edges.row("OUT is 2 off YARD 0", x, 0, 2);
    }

    private void farthest() {
        ChaffInTheWind x = Barns.low(5);
        x.set(0, 400);
        Check.text(x, "y10").barn();
        edges.due("as far both ways", 120, x.parts(0, 1));
        edges.row("below 0", x, -1, 5);
        Check.text(x, "y11").barn();
        x.parts(0, 1);
        edges.row("farther above 0", x, 1, 6);
        x.set(2, 6);
        x.parts(0, 1);
        edges.row("farther below 0", x, -1, 6);
        x.set(0, 1);
        x.set(2, 5);
        x.parts(0, 1);
        edges.row("the least size that is so far", x, -49, 4);
    }

    private void notParted() {
        ChaffInTheWind x = partedAtAnEnd(1);
        x.lands(0, 0);
        edges.due("both stay in YARD 0 or 1", 1, x.parts(0, 2));
        x.set(2, 0);
        edges.due("none", 0, x.parts(0, 2));
        edges.row("none", x);
        x.lands(0, 0);
        edges.due("like ones", 0, x.parts(1, 1));
        edges.row("like ones", x);
    }

    private void partsNone() {
        int[][] others = {{4, 0}, {0, 4}, {-1, 0}, {0, -1}, {4, 4}, {MOST, 0}, {0, LEAST}};
        for (int[] o : others) {
            edges.refused("parts(" + o[0] + ", " + o[1] + ")", x -> x.parts(o[0], o[1]));
        }
    }

    private void pairs() {
        edges.due("of an empty barn", 0, new ChaffInTheWind().never());
        edges.due("corn and corn", 0, Check.barn("c9,1,0*5;c9,1,0*5").never());
        edges.due("no corn", 0, Check.barn("h9,1,0*5;s9,1,0*5").never());
        edges.due("all others", 3, Check.barn("h9,1,0*5;w9,1,0*5;s9,1,0*5;c9,1,0*0").never());
        edges.due("each with each", 4, Check.barn("c9,1,0*5;h9,1,0*5;c9,9,0*5;w9,1,0*5").never());
        edges.due("one is parted at 60, one not", 1, partedAtAnEnd(0).never());
        edges.due("parted at -60", 0, partedAtAnEnd(1).never());
    }

    private void firstPair() {
        ChaffInTheWind x = Check.barn("h9,1,0*5;c9,1,0*5;s9,1,0*5;c9,1,0*5");
        edges.due("four", 4, x.never());
        edges.row("the corn first", x, 1, 0);
        x = partedAtAnEnd(0);
        edges.due("one", 1, x.never());
        edges.row("not parted at 60", x, 0, 2);
        x.set(2, 1);
        edges.due("none", 0, x.never());
        edges.row("none", x);
    }

    // ---- promise 21

    private void bestAtTheEnds() {
        ChaffInTheWind x = partedAtAnEnd(0);
        x.sheet(0, 2, 2, 5, 0);
        edges.due("60 alone", 60, x.best(0));
        edges.row("60 alone", x, 5, 0);
        x = partedAtAnEnd(1);
        x.sheet(0, 2, 3, 5, -5);
        edges.due("without others", 0, x.best(0));
        x.sheet(0, 2, 3, 0, 5);
        x.sheet(1, 2, 1, 7, 0);
        edges.due("no corn", 0, x.best(0));
        edges.row("no corn", x, 0, 0);
        x = Check.barn("c9,1,0*5;h15,1,1*3");
        x.set(0, 1);
        x.set(2, 1);
        edges.due("-60 alone", -60, x.best(0));
        edges.row("-60 alone", x, 5, 0);
    }

    private void cornAndNothingElse() {
        ChaffInTheWind x = Check.barn("c9,1,0*5;c1,1,4*7;h9,1,0*1");
        x.set(0, 1);
        edges.due("one grain is something else", 16, x.best(0));
        edges.row("one grain is something else", x, 7, 0);
        x.sheet(0, 2, 2, 5, 2);
        edges.due("none is", 0, x.best(0));
        edges.row("none is", x, 12, 0);
        x.sheet(0, 2, 3, 5, -5);
        edges.due("a SORT of which there is no grain", 0, x.best(0));
        edges.row("a SORT of which there is no grain", x, 5, 0);
        x.set(2, 11);
        x.sheet(0, 2, 3, 0, 1);
        edges.due("the YARD ahead of it", -1, x.best(0));
        edges.row("the YARD ahead of it", x, 1, 0);
        x.set(0, 400);
        x.set(2, 0);
        Check.text(x, "y2").barn();
        edges.due("OUT is no YARD", 0, x.best(0));
        edges.row("OUT is no YARD", x, 0, 0);
        x = Check.barn("w1,1,4*1;c9,1,0*5");
        x.set(0, 1);
        edges.due("the first SORT is something else", 16, x.best(0));
        edges.row("the first SORT is something else", x, 5, 0);
    }

    private void bestOfEqualOnes() {
        ChaffInTheWind x = Check.barn("c9,1,0*5;w1,1,4*3;y3");
        x.set(0, 400);
        x.set(2, 1);
        edges.due("-1 ahead of 1", -1, x.best(0));
        x.set(2, 0);
        edges.due("1, for it lies in YARD 0 below 0", 1, x.best(0));
        x.set(0, 1);
        edges.due("16, the first of many", 16, x.best(0));
        x.set(2, 1);
        edges.due("-1, though 16 does", -1, x.best(0));
        edges.due("all do", 0, x.best(5));
    }

    private void cornOut() {
        ChaffInTheWind x = Check.barn("c9,1,0*5;c1,1,4*7;w9,1,0*3");
        x.set(0, 1);
        x.set(2, 11);
        edges.due("apart in YARDS", -1, x.best(0));
        edges.row("apart in YARDS", x, 7, 0);
        x.set(1, 40);
        edges.due("5 go OUT, 7 not", 0, x.best(0));
        edges.row("5 go OUT, 7 not", x, 7, 5);
        x.set(0, 1);
        x.sheet(0, 2, 1, 5, 0);
        edges.due("all go OUT", 0, x.best(0));
        edges.row("all go OUT", x, 0, 5);
        x = Check.barn("c9,1,0*5;c8,1,0*2;w7,1,0*9");
        x.set(2, 11);
        x.set(1, 40);
        edges.due("two SORTS of it", 0, x.best(0));
        edges.row("two SORTS of it", x, 0, 7);
    }

    private void bestNone() {
        int[] others = {6, -1, MOST, LEAST};
        for (int o : others) {
            edges.refused("best(" + o + ")", x -> x.best(o));
        }
    }

    // ---- promise 22

    private void aims(String barn, int stand, int wind, int grains, long... row) {
        ChaffInTheWind x = Check.barn(barn);
        x.set(2, stand);
        edges.due(barn, grains, x.aim(0, wind));
        edges.row(barn, x, row);
        edges.due("HEIGHT stays", 100, x.set(0, 100));
        edges.due("SLANT stays", 0, x.set(1, 0));
    }

    private void heights() {
        aims("c7,1,1*5;h19,1,4*3;y2", 1, -30, 5, 400, 10);
        aims("c9,1,1*5;h15,1,2*3;y16", 14, -16, 5, 400, -10);
        aims("c9,1,0*5;h1,1,4*3", 0, 0, 5, 20, 10);
    }

    private void slants() {
        aims("c6,1,0*5;h20,1,1*3;y21", 6, -46, 5, 20, 40);
        aims("c9,1,7*5;h17,1,5*3;y22", 20, 54, 5, 20, -40);
        aims("c20,1,5*5;h6,1,0*3;y2", 1, 19, 5, 400, -10);
    }

    private void aimOfEqualOnes() {
        aims("c9,1,0*5;h1,1,4*3", 11, 0, 5, 20, -40);
        aims("c5,1,1*5;h14,1,4*3;y3", 0, 30, 5, 20, 0);
        aims("c20,1,7*5;h7,1,4*3;y9", 0, 50, 5, 20, -20);
        aims("c9,1,0*5;s9,1,0*3", 5, 0, 0, 20, -40);
        aims("h9,1,0*5;s9,1,0*3", 5, 60, 0, 20, -40);
        ChaffInTheWind x = Check.barn("c9,1,0*5");
        edges.due("an empty HEAP", 0, x.aim(3, -60));
        edges.row("an empty HEAP", x, 20, -40);
    }

    private void aimNone() {
        int[][] others = {{6, 0}, {-1, 0}, {0, 61}, {0, -61}, {MOST, 0}, {LEAST, 0}, {0, MOST}, {0, LEAST}};
        for (int[] o : others) {
            edges.refused("aim(" + o[0] + ", " + o[1] + ")", x -> x.aim(o[0], o[1]));
        }
        edges.due("60", 0, Barns.busy().aim(3, 60));
        edges.due("-60", 0, Barns.busy().aim(3, -60));
    }

    // ---- promise 23

    /** Corn that flies with the WIND, from the last YARD but one: OUT from 32 on. */
    private static ChaffInTheWind flyingCorn() {
        ChaffInTheWind x = Check.barn("c1,1,4*5;h1,1,4*3");
        x.set(0, 1);
        x.set(2, 10);
        return x;
    }

    private void turns() {
        ChaffInTheWind x = flyingCorn();
        edges.due("15 turns blow 30, 16 blow 32", 15, x.fan(0, 0));
        edges.due("30", 30, x.fan(0, 5));
        x.set(2, 8);
        edges.due("30 blow 60", 30, x.fan(0, 0));
        x.set(2, 11);
        x.set(1, 0);
        x.set(0, 400);
        edges.due("0", 0, x.fan(0, 0));
        Check.text(x, "c15,1,16*1").barn();
        x.set(0, 1);
        x.sheet(0, 2, 3, -5, 3);
        edges.due("29 blow 58", 29, x.fan(0, 0));
    }

    private void lost() {
        ChaffInTheWind x = flyingCorn();
        edges.due("4", 15, x.fan(0, 4));
        edges.due("5", 30, x.fan(0, 5));
        edges.due("far more", 30, x.fan(0, MOST));
        x.sheet(0, 2, 2, 0, 9);
        edges.due("chaff is no corn", 30, x.fan(0, 0));
        edges.due("nothing", 30, x.fan(4, 0));
    }

    private void chaffWithCorn() {
        ChaffInTheWind x = Check.barn("c1,1,4*5;h1,1,4*3;h1,1,0*2;w1,1,4*9;c9,1,0*0");
        x.set(0, 1);
        x.set(2, 10);
        x.fan(0, 0);
        edges.row("3 fly with it; 2 lie where no corn is", x, 3);
        x.fan(0, 5);
        edges.row("3 and the corn are OUT", x, 0);
        x.sheet(0, 2, 5, 1, 0);
        x.fan(0, 1);
        edges.row("one lies with the heavy corn", x, 1);
        x.sheet(0, 2, 3, 0, 4);
        x.fan(0, 0);
        edges.row("no corn", x, 0);
        x = Check.barn("h9,1,0*4;c9,1,0*5;h8,1,0*7;h9,1,0*0");
        x.fan(0, 0);
        edges.row("two SORTS of chaff", x, 11);
    }

    private void noTurns() {
        ChaffInTheWind x = Barns.low(11);
        x.lands(0, 0);
        x.set(1, 40);
        edges.due("4 of 5", -2, x.fan(0, 4));
        edges.row("the ROW stays", x, 1, 0, 2);
        edges.due("5 of 5", 30, x.fan(0, 5));
        edges.due("none of 5", -2, x.fan(0, 0));
    }

    private void fanNone() {
        int[][] others = {{6, 0}, {-1, 0}, {0, -1}, {MOST, 0}, {LEAST, 0}, {0, LEAST}, {5, -1}};
        for (int[] o : others) {
            edges.refused("fan(" + o[0] + ", " + o[1] + ")", x -> x.fan(o[0], o[1]));
        }
    }

    // ---- promises 24, 25

    private void linesThatServe() {
        ChaffInTheWind x = Barns.low(5);
        edges.due("no WIND is told", 0, x.serves(0, 1));
        Check.wind(x, "15*1~20;16*1~1;-1*9;0*99;-60*1;60*1");
        edges.due("15 and 0 do not", 2 + 4 + 16 + 32, x.serves(0, 1));
        edges.due("like ones", 0, x.serves(1, 1));
        Check.wind(x, "16*1;0*1");
        edges.due("the first", 1, x.serves(0, 1));
        Check.wind(x, "15*1~20;16*1~1;-1*9;0*99;-60*1;60*1");
        Check.wind(x, "16*1;".repeat(8));
        edges.due("refused", 2 + 4 + 16 + 32, x.serves(1, 0));
        Check.wind(x, "9*1;".repeat(9) + "16*1");
        edges.due("the tenth", 512, x.serves(0, 1));
    }

    private void servesNone() {
        int[][] others = {{4, 0}, {0, 4}, {-1, 0}, {0, -1}, {MOST, 0}, {0, LEAST}};
        for (int[] o : others) {
            edges.refused("serves(" + o[0] + ", " + o[1] + ")", x -> x.serves(o[0], o[1]));
        }
    }

    private void spreads() {
        ChaffInTheWind x = Barns.low(5);
        Check.wind(x, "15*1;15*1~1;14*1~20;60*1~20;-60*1~20");
        long[][] due = {{0, 1}, {1, 3}, {19, 41}, {1, 1}, {0, 1}};
        for (int line = 0; line < due.length; line++) {
            edges.due("LINE " + line, 0, x.odds(1, line, 6, 11));
            edges.row("LINE " + line, x, due[line]);
        }
        x.odds(1, 2, 6, 6);
        edges.row("16 .. 31", x, 16, 41);
        x.odds(1, 3, 8, 8);
        edges.row("40 .. 60 and 20 times 60 in YARD 8", x, 33, 41);
        x.odds(1, 4, 1, 1);
        edges.row("-60 .. -49", x, 32, 41);
        Check.wind(x, "0*1~3");
        x.odds(1, 0, 5, 5);
        edges.row("0 .. 3 of seven", x, 4, 7);
    }

    private void oddsOfYards() {
        ChaffInTheWind x = Barns.low(11);
        Check.wind(x, "15*1~2");
        x.odds(1, 0, 0, 11);
        edges.row("three of five, two OUT", x, 3, 5);
        x.odds(1, 0, 11, 11);
        edges.row("in the last YARD", x, 3, 5);
        x.odds(1, 0, 0, 10);
        edges.row("none below", x, 0, 1);
        x.set(2, 0);
        x.odds(1, 0, 0, 0);
        edges.row("three in the first YARD", x, 3, 5);
        x.odds(1, 0, 1, 1);
        edges.row("two in the second", x, 2, 5);
        x.odds(1, 0, 0, 1);
        edges.row("all", x, 1, 1);
    }

    private void oddsNone() {
        int[][] others = {{4, 0, 0, 0}, {-1, 0, 0, 0}, {0, 2, 0, 0}, {0, -1, 0, 0}, {0, 0, -1, 0}, {0, 0, 0, 6}, {0, 0, 2, 1},
            {0, 0, 6, 6}, {MOST, 0, 0, 0}, {0, MOST, 0, 0}, {0, LEAST, 0, 0}, {0, 0, LEAST, 0}, {0, 0, 0, MOST}};
        for (int[] o : others) {
            edges.refused("odds(" + o[0] + ", " + o[1] + ", " + o[2] + ", " + o[3] + ")", x -> x.odds(o[0], o[1], o[2], o[3]));
        }
        edges.due("no WIND is told", -1, Barns.low(0).odds(0, 0, 0, 0));
    }

    // ---- promises 26, 27

    private void kin() {
        ChaffInTheWind x = partedAtAnEnd(0);
        edges.due("parted at 60", 4, x.kin(0));
        edges.due("the other way", 1, x.kin(2));
        edges.due("none", 0, x.kin(1));
        x.set(2, 1);
        edges.due("parted at -60", 0, x.kin(0));
        Check.text(x, "s9,1,0*0;c77,60,0*0").barn();
        edges.due("those without DRAG", 8 + 16, x.kin(0));
        edges.due("not itself", 1 + 8, x.kin(4));
        edges.due("alone", 0, Check.barn("c9,1,0*5").kin(0));
    }

    private void kinNone() {
        int[] others = {4, -1, MOST, LEAST};
        for (int o : others) {
            edges.refused("kin(" + o + ")", x -> x.kin(o));
        }
        edges.due("of an empty barn", -1, new ChaffInTheWind().kin(0));
    }

    private void sendsOut() {
        ChaffInTheWind x = Barns.low(11);
        edges.due("OUT", 16, x.sends(1, 12));
        edges.row("OUT", x, 45);
        edges.due("the last YARD", 0, x.sends(1, 11));
        edges.row("the last YARD", x, 16);
        edges.due("the one ahead of it", -1, x.sends(1, 10));
        x.set(2, 8);
        edges.due("60 blows to YARD 11 alone", -99, x.sends(1, 12));
        x = partedAtAnEnd(11);
        edges.due("60 alone is OUT", 60, x.sends(1, 12));
        edges.row("60 alone is OUT", x, 1);
    }

    private void sends() {
        ChaffInTheWind x = Barns.low(5);
        int[][] due = {{1, -49, 12}, {2, -33, 16}, {3, -17, 16}, {4, -1, 16}, {5, 0, 16}, {6, 16, 16}, {7, 32, 16}, {8, 48, 13}};
        for (int[] d : due) {
            edges.due("YARD " + d[0], d[1], x.sends(1, d[0]));
            edges.row("YARD " + d[0], x, d[2]);
        }
        edges.due("all", 0, x.sends(0, 5));
        edges.row("all", x, 121);
        x = partedAtAnEnd(1);
        edges.due("-60 alone", -60, x.sends(2, 0));
        edges.row("-60 alone", x, 1);
    }

    private void sendsNowhere() {
        edges.unanswered("YARD 0", -99, x -> x.sends(0, 0));
        edges.unanswered("OUT", -99, x -> x.sends(0, 6));
        edges.due("none", -99, Barns.low(5).sends(1, 0));
        edges.due("none", -99, Barns.low(5).sends(1, 9));
    }

    private void sendsNone() {
        int[][] others = {{4, 0}, {-1, 0}, {0, 7}, {0, -1}, {MOST, 0}, {LEAST, 0}, {0, MOST}, {0, LEAST}};
        for (int[] o : others) {
            edges.refused("sends(" + o[0] + ", " + o[1] + ")", x -> x.sends(o[0], o[1]));
        }
    }
}
