/** Promises 46 to 50: kept. */
public final class KeptTest {
    private static final Check CHECK = new Check("KeptTest");

    public static void main(String[] args) {
        seed();
        keep();
        keepsRefused();
        sortsToldSince();
        longIsAnother();
        counts();
        rows();
        CHECK.close();
    }

    private static void seed() {
        ChaffInTheWind x = new ChaffInTheWind();
        CHECK.due("46 at first", 1, x.seed(-5));
        CHECK.due("46 what it was", -5, x.seed(Integer.MAX_VALUE));
        CHECK.due("46 what it was", Integer.MAX_VALUE, x.seed(0));
        ChaffInTheWind y = Check.barn("h1,1,4*9;y24");
        y.set(0, 1);
        y.set(3, 1);
        Check.wind(y, "20*9~20");
        y.seed(-1);
        y.go(0, 1);
        // R = -1103515245 + 12345 = -1103502900: 48697 of the upper half, by 41 30 left: 20 + 30 - 20
        CHECK.due("46 the DRAW goes by it", 1, y.lies(1, 0));
        CHECK.due("46 the DRAW goes by it", -1103502900, y.seed(0));
    }

    private static void keep() {
        ChaffInTheWind x = Check.barn("c9,1,0*30;h1,1,4*20;y6");
        Check.wind(x, "3*2~5;60*9~1");
        x.set(2, 2);
        x.set(3, 7);
        x.go(0, 3);
        x.sheet(5, 2, 2, 4, 5);
        CHECK.due("47 kept", true, x.keep(2));
        int[] before = state(x);
        for (int turn = 0; turn < 2; turn++) {
            x.go(0, 3);
            x.mix(5, 0);
            x.gather(0, 3, 4);
            x.go(4, 2);
            x.seed(99);
            x.set(3, 9 + turn);
            CHECK.due("47 others than kept", true, x.keep(1));
            CHECK.due("48 as kept", true, x.again(2));
            int[] after = state(x);
            for (int i = 0; i < before.length; i++) {
                CHECK.due("48 as kept " + i, before[i], after[i]);
            }
        }
        CHECK.due("48 SETTINGS are not kept", 10, x.set(3, 20));
        CHECK.due("48 another number", true, x.again(1));
        CHECK.due("48 another number", 99, x.seed(99));
        CHECK.due("47 anew", true, x.keep(2));
        CHECK.due("48 anew", true, x.again(2));
        CHECK.due("48 anew", 99, x.seed(1));
        Check.wind(x, "1*1");
        CHECK.due("48 THROWS", true, x.again(2));
        CHECK.due("48 THROWS", 8, x.count(2));
    }

    /** What is kept, read by the calls of the face. */
    private static int[] state(ChaffInTheWind x) {
        int[] all = new int[6 * 2 + 7 * 2 + 2];
        int n = 0;
        for (int s = 0; s < 2; s++) {
            for (int heap = 0; heap < 6; heap++) {
                all[n++] = x.has(heap, s);
            }
            for (int yard = 0; yard <= 6; yard++) {
                all[n++] = x.lies(yard, s);
            }
        }
        all[n++] = x.count(2);
        all[n] = x.seed(0);
        x.seed(all[n]);
        return all;
    }

    private static void keepsRefused() {
        ChaffInTheWind x = Check.barn("c9,1,0*30");
        CHECK.due("47 refused", false, x.keep(3));
        CHECK.due("47 refused", false, x.keep(-1));
        for (int i = -1; i < 4; i++) {
            CHECK.due("48 nothing kept " + i, false, x.again(i));
        }
        for (int i = 0; i < 3; i++) {
            CHECK.due("47 kept " + i, true, x.keep(i));
            CHECK.due("48 kept " + i, true, x.again(i));
        }
        CHECK.due("48 refused", false, x.again(3));
        CHECK.due("48 refused", false, x.again(-1));
    }

    private static void sortsToldSince() {
        ChaffInTheWind x = Check.barn("c9,1,0*30");
        x.keep(0);
        Check.text(x, "h1,1,0*50;h1,1,0*7").barn();
        x.go(0, 1);
        x.set(2, 11);
        x.set(1, 40);
        x.go(0, 1);
        x.sheet(4, 2, 3, 6, 0);
        CHECK.due("48 again", true, x.again(0));
        CHECK.due("48 SORTS stay", 3, x.count(0));
        CHECK.due("48 none of them", 0, x.has(0, 1) + x.has(0, 2) + x.has(4, 1) + x.lies(0, 1) + x.lies(12, 1));
        CHECK.due("48 the first", 30, x.has(0, 0));
        CHECK.due("48 all", 30, x.count(5) + x.count(6) + x.count(7));
    }

    private static void longIsAnother() {
        ChaffInTheWind x = Check.barn("c9,1,0*30");
        x.go(0, 1);
        x.keep(0);
        Check.text(x, "y13").barn();
        CHECK.due("48 LONG is another one", false, x.again(0));
        CHECK.due("48 nothing changes", 0, x.count(6));
        x.keep(1);
        Check.text(x, "y12").barn();
        CHECK.due("48 LONG is as it was", true, x.again(0));
        CHECK.due("48 it lies", 20, x.lies(0, 0));
        CHECK.due("48 LONG is another one", false, x.again(1));
    }

    private static void counts() {
        ChaffInTheWind x = Check.barn("c9,1,0*30;h9,1,0*5;y7");
        x.set(0, 1);
        x.set(3, 3);
        x.go(0, 2);
        x.set(2, 6);
        x.set(1, 40);
        x.go(0, 1);
        x.mix(0, 3);
        x.sheet(1, 2, 1, 4, 0);
        x.hole(3, true);
        Check.says(x, 1, "n");
        Check.says(x, 3, "w");
        x.worth(1);
        x.sign(0);
        x.sign(0);
        x.end(7);
        int[] due = {2, 7, 3, 10, 1, 30, 6, 3, 2, 7};
        for (int what = 0; what < due.length; what++) {
            CHECK.due("49 count " + what, due[what], x.count(what));
        }
        CHECK.due("49 NONE", -1, x.count(10));
        CHECK.due("49 NONE", -1, x.count(-1));
    }

    private static void rows() {
        ChaffInTheWind x = Check.barn("c9,1,0*30;h9,1,0*5;y7");
        CHECK.missing("50 none yet", () -> x.row(0));
        x.lands(0, 0);
        CHECK.row("50 three", x, 10, 0, 20);
        CHECK.missing("50 below", () -> x.row(-1));
        x.go(0, 0);
        CHECK.row("50 one", x, 0);
        CHECK.missing("50 no more", () -> x.row(1));
        CHECK.missing("50 far", () -> x.row(Integer.MAX_VALUE));
    }
}
