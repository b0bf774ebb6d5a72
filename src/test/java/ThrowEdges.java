/** Promises 12 to 18: throws. */
final class ThrowEdges {
    private static final int MOST = Integer.MAX_VALUE;
    private static final int LEAST = Integer.MIN_VALUE;

    private final Edges edges;

    ThrowEdges(Edges edges) {
        this.edges = edges;
    }

    void run() {
        edges.of(12, "(LONG: OUT)", this::landsOut);
        edges.of(12, "the ROW: TICKS, x, f at the end", this::landsRow);
        edges.of(12, "NONE: others", this::landsNone);
        edges.of(13, "n THROWS (0 .. 500) from a HEAP", this::throwsOfHeap);
        edges.of(13, "as many as there are grains for: how many", this::asManyAsGrains);
        edges.of(13, "the ROW: grains that went OUT in them", this::goneOut);
        edges.of(13, "NONE: others", this::goNone);
        edges.of(14, "without what ~ brings", this::withoutSpread);
        edges.of(14, "which LINE (NONE: no WIND is told)", this::whichLine);
        edges.of(14, "how many THROWS with it are left, this one too", this::throwsLeft);
        edges.of(15, "All that lies in YARDS from .. to comes to a HEAP", this::gathered);
        edges.of(15, "NONE: others", this::gatherNone);
        edges.of(16, "A HEAP comes to another one: grains that came", this::mixed);
        edges.of(16, "NONE: others, like ones", this::mixNone);
        edges.of(17, "SORTS of less SIZE come to another one", this::sieved);
        edges.of(17, "NONE: others, like HEAPS", this::sieveNone);
        edges.of(18, "what THE LAW flings out of a HEAP comes to another one", this::flung);
        edges.of(18, "NONE: others, like HEAPS", this::strokeNone);
    }

    // ---- promise 12

    private void landsOut() {
        ChaffInTheWind x = Barns.low(11);
        edges.due("the last YARD", 11, x.lands(1, 15));
        edges.due("OUT", 12, x.lands(1, 16));
        edges.due("far OUT", 12, x.lands(1, 60));
        Check.text(x, "y2").barn();
        edges.due("the last of 2", 1, x.lands(1, 15));
        edges.due("OUT of 2", 2, x.lands(1, 16));
        edges.due("far OUT of 2", 2, x.lands(1, 60));
        edges.due("the first of 2", 0, x.lands(1, -1));
    }

    private void landsRow() {
        ChaffInTheWind x = Check.barn("c9,1,0*5;h1,1,4*3");
        x.lands(0, 60);
        edges.row("without DRAG", x, 10, 0, 20);
        x.lands(1, -60);
        edges.row("with all of it", x, 100, -6000, 0);
        x.set(0, 1);
        x.set(1, -40);
        x.lands(0, 60);
        edges.row("one TICK", x, 1, -40, 2);
        x.set(0, 400);
        x.set(1, 40);
        x.set(4, 50);
        x.lands(1, 60);
        edges.row("from 400", x, 20, 800, 40);
        edges.due("nothing is thrown", 0, x.count(6) + x.count(7) + x.count(2));
    }

    private void landsNone() {
        int[][] others = {{4, 0}, {-1, 0}, {0, 61}, {0, -61}, {MOST, 0}, {LEAST, 0}, {0, MOST}, {0, LEAST}};
        for (int[] o : others) {
            edges.refused("lands(" + o[0] + ", " + o[1] + ")", x -> x.lands(o[0], o[1]));
        }
        edges.due("of an empty barn", -1, new ChaffInTheWind().lands(0, 0));
    }

    // ---- promise 13

    private void throwsOfHeap() {
        ChaffInTheWind x = Barns.one("c9,1,0*999");
        x.set(3, 1);
        edges.due("0", 0, x.go(0, 0));
        edges.row("0", x, 0);
        edges.due("nothing is thrown", 999, x.has(0, 0));
        edges.due("nothing is counted", 0, x.count(2));
        edges.due("500", 500, x.go(0, 500));
        edges.due("500 are thrown", 499, x.has(0, 0));
        edges.due("500 are counted", 500, x.count(2));
        edges.due("another HEAP has none", 0, x.go(5, 500));
    }

    private void asManyAsGrains() {
        for (int grains = 13; grains <= 15; grains++) {
            ChaffInTheWind x = Barns.one("c9,1,0*" + grains);
            x.set(3, 7);
            int due = grains == 15 ? 3 : 2;
            edges.due(grains + " by 7", due, x.go(0, 9));
            edges.due(grains + " by 7 counted", due, x.count(2));
            edges.due("no more", 0, x.go(0, 1));
        }
    }

    private void goneOut() {
        ChaffInTheWind x = Barns.low(11);
        x.set(3, 2);
        Check.wind(x, "16*1;15*1");
        edges.due("one", 1, x.go(0, 1));
        edges.row("of the first THROW", x, 0);
        x.gather(0, 11, 0);
        x.sheet(0, 2, 2, 0, 3);
        edges.due("the second", 1, x.go(0, 1));
        edges.row("in the WIND 15", x, 0);
        edges.due("the third", 1, x.go(0, 9));
        edges.row("in the WIND 16", x, 1);
        edges.due("none", 0, x.go(0, 9));
        edges.row("in no THROW", x, 0);
        edges.due("OUT by all", 1, x.count(7));
        x.sheet(0, 2, 2, 0, 5);
        Check.wind(x, "16*9");
        edges.due("three", 3, x.go(0, 9));
        edges.row("in all of them", x, 5);
    }

    private void goNone() {
        int[][] others = {{6, 1}, {-1, 1}, {0, 501}, {0, -1}, {MOST, 1}, {LEAST, 1}, {0, MOST}, {0, LEAST}, {6, 0}, {3, 501}};
        for (int[] o : others) {
            edges.refused("go(" + o[0] + ", " + o[1] + ")", x -> x.go(o[0], o[1]));
        }
    }

    // ---- promise 14

    private void withoutSpread() {
        ChaffInTheWind x = Barns.low(5);
        Check.wind(x, "60*1~20;-60*1~20");
        edges.due("60", 60, x.blows());
        x.set(3, 1);
        x.go(0, 1);
        int r = x.seed(5);
        edges.due("-60", -60, x.blows());
        edges.due("no DRAW", 5, x.seed(r));
    }

    private void whichLine() {
        ChaffInTheWind x = Barns.low(5);
        edges.due("none", 0, x.blows());
        edges.row("none", x, -1, 0);
        x.go(0, 1);
        edges.due("none behind a THROW", 0, x.blows());
        edges.row("none behind a THROW", x, -1, 0);
        Check.wind(x, "0*1;".repeat(9) + "7*1");
        x.sheet(0, 2, 1, 99, 0);
        x.set(3, 1);
        for (int line = 0; line < 10; line++) {
            x.blows();
            edges.row("LINE " + line, x, line, 1);
            x.go(0, 1);
        }
        x.blows();
        edges.row("the first again", x, 0, 1);
    }

    private void throwsLeft() {
        ChaffInTheWind x = Barns.one("c9,1,0*999");
        x.set(3, 1);
        Check.wind(x, "1*99;2*2");
        int[][] due = {{0, 99}, {0, 98}, {0, 1}, {1, 2}, {1, 1}, {0, 99}};
        int[] throwsAhead = {1, 97, 1, 1, 1, 0};
        for (int i = 0; i < due.length; i++) {
            x.blows();
            edges.row("at " + i, x, due[i][0], due[i][1]);
            x.go(0, throwsAhead[i]);
        }
    }

    // ---- promises 15 to 18

    private void gathered() {
        ChaffInTheWind x = Barns.one("c9,1,0*4;s9,1,0*4;y4");
        x.set(3, 2);
        for (int yard = 0; yard < 4; yard++) {
            x.set(2, yard);
            x.go(0, 1);
        }
        edges.due("one YARD", 2, x.gather(2, 2, 5));
        edges.due("it is empty", 0, x.lies(2, 0) + x.lies(2, 1));
        edges.due("those beside it are not", 4, x.lies(1, 0) + x.lies(1, 1) + x.lies(3, 0) + x.lies(3, 1));
        edges.due("all YARDS", 6, x.gather(0, 3, 5));
        edges.due("by SORTS", 4, x.has(5, 0));
        edges.due("by SORTS", 4, x.has(5, 1));
        edges.due("nothing is left", 0, x.gather(0, 3, 5));
    }

    private void gatherNone() {
        int[][] others = {{-1, 0, 0}, {0, 6, 0}, {6, 6, 0}, {2, 1, 0}, {0, 5, 6}, {0, 5, -1}, {LEAST, 0, 0}, {0, MOST, 0}, {0, 5, MOST},
            {0, 5, LEAST}, {0, -1, 0}};
        for (int[] o : others) {
            edges.refused("gather(" + o[0] + ", " + o[1] + ", " + o[2] + ")", x -> x.gather(o[0], o[1], o[2]));
        }
    }

    private void mixed() {
        ChaffInTheWind x = Check.barn("c9,1,0*5;s9,1,0*4");
        x.sheet(5, 2, 2, 1, 1);
        edges.due("all", 9, x.mix(0, 5));
        edges.due("to what it has", 6, x.has(5, 0));
        edges.due("to what it has", 6, x.has(5, 1));
        edges.due("none is left", 0, x.has(0, 0) + x.has(0, 1));
        edges.due("of nothing", 0, x.mix(0, 5));
        edges.due("to an empty one", 12, x.mix(5, 0));
    }

    private void mixNone() {
        int[][] others = {{0, 0}, {5, 5}, {6, 0}, {0, 6}, {-1, 0}, {0, -1}, {6, 6}, {-1, -1}, {MOST, 0}, {0, LEAST}};
        for (int[] o : others) {
            edges.refused("mix(" + o[0] + ", " + o[1] + ")", x -> x.mix(o[0], o[1]));
        }
    }

    private void sieved() {
        ChaffInTheWind x = Check.barn("c9,1,0*5;s9,30,0*4;h9,60,0*3");
        edges.due("none is less than 1", 0, x.sieve(0, 1, 1));
        edges.due("30 is not less", 5, x.sieve(0, 30, 1));
        edges.due("30 stays", 4, x.has(0, 1));
        edges.due("30 is less than 31", 4, x.sieve(0, 31, 1));
        edges.due("60 is not less", 0, x.sieve(0, 60, 1));
        edges.due("60 stays", 3, x.has(0, 2));
        edges.due("all that came", 9, x.has(1, 0) + x.has(1, 1));
        edges.due("of nothing", 0, x.sieve(4, 60, 5));
        edges.due("two SORTS", 9, x.sieve(1, 60, 0));
    }

    private void sieveNone() {
        int[][] others = {{0, 0, 1}, {0, 61, 1}, {0, 30, 0}, {6, 30, 1}, {-1, 30, 1}, {0, 30, 6}, {0, 30, -1}, {0, MOST, 1}, {0, LEAST, 1},
            {MOST, 30, 1}, {0, 30, LEAST}};
        for (int[] o : others) {
            edges.refused("sieve(" + o[0] + ", " + o[1] + ", " + o[2] + ")", x -> x.sieve(o[0], o[1], o[2]));
        }
    }

    private void flung() {
        ChaffInTheWind x = Check.barn("c9,1,0*5;s9,30,2*4;h9,60,3*3");
        Check.says(x, 3, "k<d");
        edges.due("in the first STROKE", 7, x.stroke(0, 1, 5));
        edges.due("in the ninth", 0, x.stroke(5, 9, 0));
        edges.due("in the second", 3, x.stroke(5, 2, 0));
        edges.due("the other one stays", 4, x.has(5, 1));
        edges.due("of nothing", 0, x.stroke(4, 1, 3));
        Check.says(x, 3, "0-1");
        edges.due("all", 8, x.stroke(0, 9, 5));
    }

    private void strokeNone() {
        int[][] others = {{0, 0, 1}, {0, 10, 1}, {0, 2, 0}, {6, 2, 1}, {-1, 2, 1}, {0, 2, 6}, {0, 2, -1}, {0, MOST, 1}, {0, LEAST, 1},
            {MOST, 2, 1}, {0, 2, LEAST}};
        for (int[] o : others) {
            edges.refused("stroke(" + o[0] + ", " + o[1] + ", " + o[2] + ")", x -> x.stroke(o[0], o[1], o[2]));
        }
    }
}
