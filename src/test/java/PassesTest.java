/** Promises 35 to 41: passes. */
public final class PassesTest {
    private static final Check CHECK = new Check("PassesTest");

    public static void main(String[] args) {
        told();
        stays();
        order();
        orderKeeps();
        needed();
        strokes();
        find();
        CHECK.close();
    }

    private static void told() {
        ChaffInTheWind x = Check.barn("c9,1,0*1;y4");
        CHECK.due("35 first", 0, x.blow(-60, 0, 3));
        CHECK.due("35 WIND", -1, x.blow(61, 0, 3));
        CHECK.due("35 WIND", -1, x.blow(-61, 0, 3));
        CHECK.due("35 YARDS", -1, x.blow(0, -1, 3));
        CHECK.due("35 YARDS", -1, x.blow(0, 0, 4));
        CHECK.due("35 YARDS", -1, x.blow(0, 2, 1));
        CHECK.due("36 HOLE", -1, x.hole(0, true));
        CHECK.due("36 HOLE", -1, x.hole(61, false));
        CHECK.due("36 second", 1, x.hole(60, false));
        CHECK.due("35 third", 2, x.blow(60, 2, 2));
        CHECK.due("36 fourth", 3, x.hole(1, true));
        for (int i = 4; i < 7; i++) {
            CHECK.due("36 more", i, x.hole(1, true));
        }
        CHECK.due("36 7", -1, x.hole(1, true));
        CHECK.due("35 7", -1, x.blow(0, 0, 3));
        CHECK.due("49 PASSES", 7, x.count(4));
    }

    private static void stays() {
        ChaffInTheWind x = Check.barn("c10,20,0*10;w10,10,0*5;s10,30,0*5;h1,1,4*50");
        x.set(0, 1);
        CHECK.due("37 none such", -1, x.stays(0));
        x.hole(20, true);
        x.hole(20, false);
        x.blow(60, 3, 3);
        x.blow(60, 0, 11);
        CHECK.due("37 over", 1 + 4, x.stays(0));
        CHECK.due("37 those less", 2 + 8, x.stays(1));
        CHECK.due("37 FAN", 8, x.stays(2));
        CHECK.due("37 FAN", 15, x.stays(3));
        CHECK.due("37 none such", -1, x.stays(4));
        CHECK.due("37 none such", -1, x.stays(-1));
        x.set(2, 3);
        CHECK.due("37 SETTINGS as they are now", 7, x.stays(2));
        x.set(2, 9);
        CHECK.due("37 OUT does not stay", 7, x.stays(3));
        Check.text(x, "y5;h1,1,4*0").barn();
        CHECK.due("37 OUT of a shorter barn does not stay", 7, x.stays(3));
        x.set(2, 1);
        CHECK.due("37 a new SORT", 31, x.stays(3));
        CHECK.due("37 a new SORT", 2 + 8 + 16, x.stays(1));
    }

    private static ChaffInTheWind ordered() {
        ChaffInTheWind x = Check.barn("c10,20,0*10;w10,10,0*5;s10,30,0*5;h1,1,4*50");
        x.set(0, 1);
        x.hole(15, true);
        x.hole(25, false);
        x.blow(0, 0, 11);
        x.blow(60, 0, 2);
        return x;
    }

    private static void order() {
        ChaffInTheWind x = ordered();
        CHECK.due("38 no PASS", 0, x.order(0, 40, 100));
        CHECK.row("38 no PASS", x, 0);
        CHECK.due("38 the most grains", 1, x.order(0, 41, 100));
        CHECK.row("38 the most grains", x, 2);
        CHECK.due("38 one that does", 1, x.order(0, 51, 100));
        CHECK.row("38 one that does", x, 1);
        CHECK.due("38 66 of 100", 1, x.order(0, 66, 100));
        CHECK.due("38 67 of 100", 2, x.order(0, 67, 100));
        CHECK.row("38 67 of 100", x, 3);
        CHECK.due("38 clean", 2, x.order(0, 100, 100));
        CHECK.due("38 NONE", -1, x.order(1, 0, 0));
        CHECK.due("38 NONE", -1, x.order(6, 0, 0));
        CHECK.due("38 NONE", -1, x.order(-1, 0, 0));
        CHECK.due("38 NONE", -1, x.order(0, 101, 0));
        CHECK.due("38 NONE", -1, x.order(0, -1, 0));
        CHECK.due("38 NONE", -1, x.order(0, 0, 101));
        CHECK.due("38 NONE", -1, x.order(0, 0, -1));
        x.sheet(1, 2, 4, 0, 1);
        CHECK.due("38 NONE without corn", -1, x.order(1, 0, 0));
        CHECK.row("38 the ROW stays", x, 3);
        x.set(2, 11);
        CHECK.due("38 SETTINGS as they are now", 1, x.order(0, 41, 100));
        CHECK.row("38 the chaff goes OUT, but fewer grains are left", x, 2);
        x = Check.barn("c10,20,0*10;w10,10,0*15");
        CHECK.due("38 -2 without PASSES", -2, x.order(0, 41, 0));
        CHECK.row("38 the ROW stays", x);
        CHECK.due("38 without PASSES", 0, x.order(0, 40, 100));
    }

    private static void orderKeeps() {
        ChaffInTheWind x = Check.barn("c10,20,0*10;c10,10,0*10;w10,5,0*5");
        x.hole(15, true);
        CHECK.due("38 keeps half", 1, x.order(0, 90, 50));
        CHECK.due("38 keeps half alone", -2, x.order(0, 90, 51));
        x.hole(8, true);
        CHECK.due("38 keeps all", 1, x.order(0, 90, 51));
        CHECK.row("38 keeps all", x, 2);
        CHECK.due("38 the most grains", 1, x.order(0, 90, 50));
        CHECK.row("38 the most grains", x, 2);
        x.hole(8, true);
        CHECK.due("38 the least bits", 1, x.order(0, 100, 100));
        CHECK.row("38 the least bits", x, 2);
        x = Check.barn("w10,10,0*1;c10,20,0*999;c10,40,0*1;w10,50,0*2");
        x.hole(45, false);
        x.hole(15, true);
        x.hole(35, false);
        x.hole(15, true);
        CHECK.due("38 keeps nearly all", 2, x.order(0, 100, 100));
        CHECK.row("38 keeps nearly all", x, 3);
        x = Check.barn("c10,20,0*999;c10,40,0*1;w10,50,0*2");
        x.hole(35, false);
        CHECK.due("38 keeps not quite all", -2, x.order(0, 100, 100));
        CHECK.due("38 keeps 99", 1, x.order(0, 100, 99));
        x = Check.barn("w10,30,0*1;c10,20,0*1;w10,10,0*3");
        x.hole(15, true);
        x.hole(25, false);
        CHECK.due("38 a grain of corn", 2, x.order(0, 100, 100));
        CHECK.due("38 the most grains, the first SORT's too", 1, x.order(0, 25, 100));
        CHECK.row("38 the most grains, the first SORT's too", x, 2);
        x.hole(15, true);
        CHECK.due("38 the weeds above or below", 1, x.order(0, 50, 100));
        CHECK.row("38 the weeds above or below", x, 1);
        x = Check.barn("w10,30,0*2;c10,20,0*2;w10,10,0*1");
        x.hole(25, false);
        x.hole(15, true);
        CHECK.due("38 the first SORT is more", 1, x.order(0, 50, 100));
        CHECK.row("38 the first SORT is more", x, 2);
        x = Check.barn("w1,30,4*2;c10,20,0*2;w1,10,4*1");
        x.set(0, 1);
        x.hole(25, false);
        x.hole(15, true);
        CHECK.due("38 two", 2, x.order(0, 100, 100));
        x.blow(60, 0, 0);
        CHECK.due("38 one, though two ahead of it do", 1, x.order(0, 100, 100));
        CHECK.row("38 one, though two ahead of it do", x, 4);
        // by WEIGHT, not by grains
        x = Check.barn("c30,20,0*1;c10,10,0*10;w1,5,0*15");
        x.hole(15, true);
        CHECK.due("38 corn's WEIGHT", 1, x.order(0, 100, 23));
        CHECK.due("38 corn's WEIGHT", -2, x.order(0, 100, 24));
        CHECK.due("38 all WEIGHT", 0, x.order(0, 89, 100));
        CHECK.due("38 all WEIGHT", 1, x.order(0, 90, 0));
    }

    private static void needed() {
        ChaffInTheWind x = ordered();
        x.worth(0);
        CHECK.due("39 none", 0, x.needed(0, 40, 100));
        CHECK.due("39 one", 2, x.needed(0, 41, 100));
        CHECK.due("39 both", 3, x.needed(0, 67, 100));
        CHECK.due("39 NONE", -1, x.needed(1, 0, 0));
        CHECK.due("39 NONE", -1, x.needed(0, 101, 0));
        CHECK.due("39 NONE", -1, x.needed(0, 0, -1));
        CHECK.due("39 NONE", -1, x.needed(6, 0, 0));
        CHECK.row("39 the ROW stays", x, -1, 70);
        x = Check.barn("c10,20,0*10;w10,20,0*5");
        x.hole(15, true);
        CHECK.due("39 -2", -2, x.needed(0, 67, 100));
    }

    private static void strokes() {
        ChaffInTheWind x = Check.barn("c5,1,0*3;s7,1,0*2;s9,1,0*4;c2,1,0*6;w1,1,0*9");
        Object[][] told = {
            {"", 0, 0, 6}, {"k>w-2", 0, 9, 0}, {"(w=9)*(k=9)+(w=7)*(k=1)", 257, 0, 0}, {"(i=3)*(w=7)", 0, 0, 4}, {"i=0", 0, 1, 6},
            {"(k=w)*(i=3)", 256 + 64, 0, 0}, {"k=w", 256 + 64, 16 + 2, 0}, {"(k=8)*(i<>0)", 256 + 64, 16 + 2, 0}, {"i=2", 0, 0, 6},
            {"(k>7)*(w=9)", 0, 0, 2}, {"(k=7)*(i=3)", 64, 0, 0}};
        for (Object[] t : told) {
            boolean fits = Check.says(x, 3, (String) t[0]) == 0;
            CHECK.due("6 " + t[0], !((String) t[0]).contains("<>"), fits);
            if (fits) {
                CHECK.due("40 " + t[0], (Integer) t[1], x.strokes(0));
                CHECK.row("40 " + t[0], x, (Integer) t[2], (Integer) t[3]);
            }
        }
        CHECK.due("40 nothing changes", 24, x.count(5));
        CHECK.due("40 nothing", 0, x.strokes(1));
        CHECK.row("40 nothing", x, 0, 0);
        x.sheet(1, 2, 2, 1, 0);
        CHECK.due("40 SORTS of which it has none", 64, x.strokes(1));
        CHECK.row("40 SORTS of which it has none", x, 0, 0);
        CHECK.due("40 NONE", -1, x.strokes(6));
        CHECK.due("40 NONE", -1, x.strokes(-1));
        CHECK.row("40 the ROW stays", x, 0, 0);
    }

    private static void find() {
        ChaffInTheWind x = Check.barn("c10,20,0*10;w10,10,0*5;s10,30,0*5;h1,1,4*50");
        x.never();
        CHECK.due("41 no PASSES", -2, x.find(1));
        CHECK.due("41 NONE first", -1, x.find(0));
        CHECK.due("41 NONE first", -1, x.find(16));
        CHECK.row("41 the ROW stays", x, 0, 1);
        x.set(0, 1);
        x.hole(15, true);
        x.hole(25, false);
        x.blow(0, 0, 11);
        x.blow(60, 0, 2);
        int[][] due = {{10, 0, 0}, {4, 1, 0}, {8, 3, 0}, {2, 0, 1}, {5, 1, 1}, {1, 2, 1}, {15, 0, 2}, {14, 0, 1}, {12, 1, 1}};
        for (int[] d : due) {
            CHECK.due("41 find " + d[0], d[1], x.find(d[0]));
            CHECK.row("41 find " + d[0], x, d[2]);
        }
        x.hole(20, false);
        x.hole(21, false);
        CHECK.due("41 corn goes", 4, x.find(5));
        CHECK.row("41 corn goes", x, 0);
        CHECK.due("41 the first", 2, x.find(1));
        CHECK.row("41 the first", x, 1);
        CHECK.due("41 NONE", -1, x.find(0));
        CHECK.due("41 NONE", -1, x.find(-1));
        CHECK.due("41 NONE", -1, x.find(16));
        CHECK.due("41 NONE", -1, x.find(17));
        CHECK.row("41 the ROW stays", x, 1);
    }
}
