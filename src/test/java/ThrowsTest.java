/** Promises 12 to 18: throws. */
public final class ThrowsTest {
    private static final Check CHECK = new Check("ThrowsTest");

    public static void main(String[] args) {
        falls();
        shovels();
        gusts();
        windsOfThrows();
        gathers();
        mixes();
        sieves();
        strokes();
        CHECK.close();
    }

    private static void falls() {
        ChaffInTheWind x = Check.barn("c2,1,3*1;h1,1,60*1;s99,1,0*1");
        x.set(0, 10);
        x.set(1, 5);
        CHECK.due("12 with the WIND", 1, x.lands(0, 10));
        CHECK.row("12 with the WIND", x, 4, 29, 4);
        x.set(2, 3);
        CHECK.due("12 against the WIND, cut down", 2, x.lands(0, -10));
        CHECK.row("12 against the WIND", x, 4, -14, 4);
        x.set(2, 0);
        CHECK.due("12 below 0", 0, x.lands(0, -10));
        x.set(4, 2);
        CHECK.due("12 WET", 0, x.lands(0, 10));
        CHECK.row("12 WET", x, 3, 15, 5);
        x.set(4, 0);
        CHECK.due("12 D is W at most", 6, x.lands(1, 10));
        CHECK.row("12 D is W at most", x, 10, 100, 0);
        CHECK.due("12 OUT", 12, x.lands(1, 20));
        CHECK.row("12 OUT", x, 10, 200, 0);
        x.set(2, 11);
        CHECK.due("12 the last YARD", 11, x.lands(2, 60));
        CHECK.row("12 without DRAG", x, 3, 15, 6);
        CHECK.due("12 SORT", -1, x.lands(3, 0));
        CHECK.due("12 SORT", -1, x.lands(-1, 0));
        CHECK.due("12 WIND", -1, x.lands(0, 61));
        CHECK.due("12 WIND", -1, x.lands(0, -61));
        CHECK.row("12 the ROW stays", x, 3, 15, 6);
        x.set(0, 400);
        x.set(1, 0);
        x.lands(1, -60);
        CHECK.row("12 the longest", x, 400, -24000, 0);
        x.set(0, 6);
        x.lands(2, 0);
        CHECK.row("12 h is 0", x, 2, 0, 4);
        CHECK.due("12 more SORTS", 1, Check.text(x, "w1,1,4*1").barn());
        CHECK.due("12 a new SORT", 12, x.lands(3, 3));
    }

    private static void shovels() {
        ChaffInTheWind x = Check.barn("c9,1,0*3;s9,1,0*5;w9,1,0*5");
        x.set(0, 1);
        x.set(3, 1);
        int[] order = {1, 2, 1, 2, 0, 1, 2, 0, 1, 2, 0, 1, 2};
        for (int i = 0; i < order.length; i++) {
            int before = x.has(0, order[i]);
            CHECK.due("13 one THROW", 1, x.go(0, 1));
            CHECK.due("13 grain " + i, before - 1, x.has(0, order[i]));
            CHECK.due("13 lies", i + 1, x.count(6));
        }
        CHECK.due("13 no grains", 0, x.go(0, 1));
        CHECK.row("13 no grains", x, 0);
        CHECK.due("13 THROWS", 13, x.count(2));

        x = Check.barn("c9,1,0*50;s9,1,0*9");
        x.set(0, 1);
        x.set(1, 40);
        x.set(2, 9);
        CHECK.due("13 no THROWS", 0, x.go(0, 0));
        CHECK.due("13 as many as there are grains for", 3, x.go(0, 500));
        CHECK.due("13 THROWS", 3, x.count(2));
        CHECK.row("13 OUT", x, 0);
        CHECK.due("13 lies", 50, x.lies(11, 0));
        x.gather(0, 11, 4);
        x.set(2, 10);
        CHECK.due("13 another HEAP", 2, x.go(4, 2));
        CHECK.row("13 OUT", x, 40);
        CHECK.due("13 OUT", 40, x.lies(12, 0) + x.lies(12, 1));
        CHECK.due("13 OUT", 40, x.count(7));
        CHECK.due("13 left", 19, x.count(5));
        CHECK.due("13 one more", 1, x.go(4, 2));
        CHECK.row("13 in these THROWS alone", x, 19);
        CHECK.due("13 HEAP", -1, x.go(6, 1));
        CHECK.due("13 HEAP", -1, x.go(-1, 1));
        CHECK.due("13 n", -1, x.go(4, -1));
        CHECK.due("13 n", -1, x.go(4, 501));
        CHECK.row("13 the ROW stays", x, 19);
    }

    private static void gusts() {
        ChaffInTheWind x = Check.barn("c9,1,0*10");
        x.set(3, 1);
        CHECK.due("14 none", 0, x.blows());
        CHECK.row("14 none", x, -1, 0);
        Check.wind(x, "5*2;-7*3~9;0*1");
        int[][] due = {{5, 0, 2}, {5, 0, 1}, {-7, 1, 3}, {-7, 1, 2}, {-7, 1, 1}, {0, 2, 1}, {5, 0, 2}, {5, 0, 1}};
        for (int[] d : due) {
            CHECK.due("14 blows", d[0], x.blows());
            CHECK.row("14 blows", x, d[1], d[2]);
            x.go(0, 1);
        }
        Check.wind(x, "6*5");
        CHECK.due("14 told anew", 6, x.blows());
        CHECK.row("14 told anew", x, 0, 5);
    }

    private static void windsOfThrows() {
        ChaffInTheWind x = Check.barn("h1,1,4*99;y24");
        x.set(0, 1);
        x.set(3, 1);
        Check.wind(x, "15*9~1");
        x.go(0, 1);
        CHECK.due("13 1 more", 1, x.lies(1, 0));
        CHECK.due("13 R", 1103527590, x.seed(1103527590));
        x.go(0, 2);
        CHECK.due("13 1 less", 2, x.lies(0, 0));
        CHECK.due("13 R", 662824084, x.seed(1));
        Check.wind(x, "16*2;31*1~1;32*1");
        x.gather(0, 23, 0);
        x.go(0, 5);
        CHECK.due("13 a DRAW only for ~", 1103527590, x.seed(1));
        CHECK.due("13 16, from the first LINE again", 3, x.lies(1, 0));
        CHECK.due("13 31 and 1, 32", 2, x.lies(2, 0));
        x.set(0, 5);
        Check.wind(x, "60*1~1");
        x.go(0, 1);
        CHECK.due("13 put to 60", 1, x.lies(18, 0));
        x.set(2, 20);
        x.seed(1103527590);
        Check.wind(x, "-60*1~1");
        x.go(0, 1);
        CHECK.due("13 put to -60", 4, x.lies(1, 0));
        x.gather(0, 23, 0);
        x.go(0, 500);
        int before = x.seed(7);
        CHECK.due("13 without grains no DRAW", 0, x.go(0, 1));
        CHECK.due("13 without grains no DRAW", 7, x.seed(before));
    }

    private static void gathers() {
        ChaffInTheWind x = Check.barn("c9,1,0*10;s9,1,0*4;y5");
        x.set(0, 1);
        x.set(3, 2);
        for (int yard = 0; yard < 5; yard++) {
            x.set(2, yard);
            x.go(0, 1);
        }
        x.set(1, 40);
        x.go(0, 1);
        CHECK.due("15 some YARDS", 4, x.gather(1, 2, 3));
        CHECK.due("15 others lie", 6, x.count(6));
        CHECK.due("15 the HEAP", 4, x.has(3, 0) + x.has(3, 1));
        CHECK.due("15 the last YARD", 2, x.gather(4, 4, 3));
        CHECK.due("15 to what it has", 6, x.has(3, 0) + x.has(3, 1));
        CHECK.due("15 nothing", 0, x.gather(1, 2, 3));
        CHECK.due("15 not OUT", -1, x.gather(0, 5, 3));
        CHECK.due("15 from", -1, x.gather(-1, 2, 3));
        CHECK.due("15 from behind to", -1, x.gather(1, 0, 3));
        CHECK.due("15 HEAP", -1, x.gather(0, 4, 6));
        CHECK.due("15 HEAP", -1, x.gather(0, 4, -1));
        CHECK.due("15 all", 4, x.gather(0, 4, 0));
        CHECK.due("15 OUT stays", 2, x.count(7));
    }

    private static void mixes() {
        ChaffInTheWind x = Check.barn("c9,1,0*10;s9,1,0*4");
        x.sheet(5, 2, 2, 1, 1);
        CHECK.due("16 came", 14, x.mix(0, 5));
        CHECK.due("16 there", 11, x.has(5, 0));
        CHECK.due("16 there", 6, x.has(5, 1));
        CHECK.due("16 none left", 0, x.has(0, 0) + x.has(0, 1));
        CHECK.due("16 nothing", 0, x.mix(0, 5));
        CHECK.due("16 like ones", -1, x.mix(5, 5));
        CHECK.due("16 others", -1, x.mix(6, 5));
        CHECK.due("16 others", -1, x.mix(5, 6));
        CHECK.due("16 others", -1, x.mix(-1, 5));
        CHECK.due("16 others", -1, x.mix(5, -1));
        CHECK.due("16 nothing changes", 11, x.has(5, 0));
    }

    private static void sieves() {
        ChaffInTheWind x = Check.barn("c9,1,0*10;s9,30,0*4;h1,60,1*3");
        x.sheet(1, 2, 3, 1, 0);
        CHECK.due("17 none is less", 0, x.sieve(0, 1, 1));
        CHECK.due("17 as large stays", 10, x.sieve(0, 30, 1));
        CHECK.due("17 there", 11, x.has(1, 0));
        CHECK.due("17 stays", 4, x.has(0, 1));
        CHECK.due("17 others", 4, x.sieve(0, 60, 1));
        CHECK.due("17 stays", 3, x.has(0, 2));
        CHECK.due("17 HOLE", -1, x.sieve(0, 61, 1));
        CHECK.due("17 HOLE", -1, x.sieve(0, 0, 1));
        CHECK.due("17 like", -1, x.sieve(0, 60, 0));
        CHECK.due("17 HEAP", -1, x.sieve(6, 60, 0));
        CHECK.due("17 HEAP", -1, x.sieve(0, 60, -1));
    }

    private static void strokes() {
        ChaffInTheWind x = Check.barn("c40,1,0*10;s30,30,5*4;h1,60,1*3;w9,9,9*2");
        CHECK.due("18 without a LAW", 0, x.stroke(0, 1, 1));
        Check.says(x, 3, "i=k");
        CHECK.due("18 KIND 1", 3, x.stroke(0, 1, 1));
        CHECK.due("18 KIND 2", 2, x.stroke(0, 2, 1));
        CHECK.due("18 there", 3, x.has(1, 2));
        CHECK.due("18 none", 0, x.stroke(0, 9, 1));
        Check.says(x, 3, "z-26-k");
        CHECK.due("18 each that is not 0", 10, x.stroke(0, 4, 1));
        CHECK.due("18 0 stays", 4, x.has(0, 1));
        Check.says(x, 3, "w-30+(d-5)");
        CHECK.due("18 WEIGHT and DRAG", 0, x.stroke(0, 4, 1));
        CHECK.due("18 STROKE", -1, x.stroke(0, 10, 1));
        CHECK.due("18 STROKE", -1, x.stroke(0, 0, 1));
        CHECK.due("18 like", -1, x.stroke(0, 1, 0));
        CHECK.due("18 HEAP", -1, x.stroke(0, 1, 6));
        CHECK.due("18 HEAP", -1, x.stroke(-1, 1, 0));
    }
}
