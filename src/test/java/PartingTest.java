/** Promises 19 to 27: what parts what. */
public final class PartingTest {
    private static final Check CHECK = new Check("PartingTest");

    public static void main(String[] args) {
        parts();
        nothingParts();
        best();
        aim();
        fan();
        serves();
        odds();
        kin();
        sends();
        CHECK.close();
    }

    /** At HEIGHT 1 SORT 0 lands where one stands, SORT 1 by 16 of the WIND from there. */
    private static ChaffInTheWind low(int stand) {
        ChaffInTheWind x = Check.barn("c9,1,0*5;h1,1,4*3");
        x.set(0, 1);
        x.set(2, stand);
        return x;
    }

    private static void parts() {
        ChaffInTheWind x = low(5);
        CHECK.due("19 winds", 105, x.parts(0, 1));
        CHECK.row("19 farthest", x, -49, 4);
        CHECK.due("19 winds", 105, x.parts(1, 0));
        CHECK.row("19 farthest", x, -49, 4);
        x.set(2, 11);
        CHECK.due("19 OUT is like a YARD", 105, x.parts(0, 1));
        CHECK.row("19 OUT is one off", x, -49, 4);
        x.set(2, 0);
        CHECK.due("19 not below 0", 45, x.parts(0, 1));
        CHECK.row("19 not below 0", x, 48, 3);
        x.set(1, 16);
        CHECK.due("19 in the WIND 0, too", 121 - 16, x.parts(0, 1));
        CHECK.row("19 in the WIND 0, too", x, 48, 2);
        x.set(1, 0);
        Check.text(x, "h15,1,16*1").barn();
        CHECK.due("19 in one WIND", 1, x.parts(0, 2));
        CHECK.row("19 in one WIND", x, 60, 1);
        CHECK.due("26 but for one WIND", 0, x.kin(0));
        CHECK.due("20 but for one WIND", 0, x.never());
        x.parts(0, 1);
        CHECK.due("19 NONE", -1, x.parts(0, 3));
        CHECK.due("19 NONE", -1, x.parts(-1, 0));
        CHECK.row("19 the ROW stays", x, 48, 3);
        CHECK.due("19 like ones", 0, x.parts(1, 1));
        CHECK.row("19 empty", x);
        Check.text(x, "y2").barn();
        x.set(2, 1);
        x.set(0, 400);
        CHECK.due("19 both ways", 120, x.parts(0, 1));
        CHECK.row("19 below 0 first", x, -1, 1);
    }

    private static void nothingParts() {
        ChaffInTheWind x = Check.barn("h1,1,0*1;c9,1,0*1;s9,1,0*0;c9,9,0*0;w1,1,4*5");
        CHECK.due("20 pairs", 4, x.never());
        CHECK.row("20 the first", x, 1, 0);
        x = Check.barn("c9,1,0*1;w1,1,4*5");
        x.set(2, 6);
        CHECK.due("20 none", 0, x.never());
        CHECK.row("20 none", x);
        CHECK.due("20 of an empty barn", 0, new ChaffInTheWind().never());
        x = Check.barn("c9,1,0*1;c9,1,0*5");
        CHECK.due("20 corn and corn", 0, x.never());
    }

    private static void best() {
        ChaffInTheWind x = Check.barn("c9,1,0*5;w1,1,4*3;y3");
        x.set(0, 400);
        x.set(2, 1);
        CHECK.due("21 below 0 first", -1, x.best(0));
        CHECK.row("21 below 0 first", x, 5, 0);
        x.sheet(1, 2, 1, 4, 0);
        CHECK.due("21 a SORT of which it has none", 0, x.best(1));
        CHECK.row("21 a SORT of which it has none", x, 4, 0);
        CHECK.due("21 nothing", 0, x.best(2));
        CHECK.row("21 nothing", x, 0, 0);
        CHECK.due("21 NONE", -1, x.best(6));
        CHECK.due("21 NONE", -1, x.best(-1));
        CHECK.row("21 the ROW stays", x, 0, 0);
        Check.text(x, "c1,1,4*7").barn();
        CHECK.due("21 OUT is no YARD", -1, x.best(0));
        CHECK.row("21 OUT is no YARD", x, 5, 0);
        x.sheet(5, 2, 2, 4, -3);
        CHECK.due("21 one grain is something else", -1, x.best(5));
        x.sheet(0, 2, 3, 0, 7);
        x.set(1, 40);
        Check.text(x, "h2,1,0*1;c2,1,0*9").barn();
        CHECK.due("21 corn OUT", 0, x.best(0));
        CHECK.row("21 corn OUT", x, 0, 9);
        x = Check.barn("w1,1,4*3;c9,1,0*5;y3");
        x.set(0, 400);
        x.set(2, 1);
        CHECK.due("21 the weed first", -1, x.best(0));
        CHECK.row("21 the weed first", x, 5, 0);
        CHECK.due("21 it is not thrown", 0, x.count(6) + x.count(7));
    }

    private static void aim() {
        ChaffInTheWind x = Check.barn("c9,1,0*5;h1,1,4*3");
        CHECK.due("22 the least HEIGHT", 5, x.aim(0, 0));
        CHECK.row("22 then SLANT", x, 20, 10);
        CHECK.due("22 nothing", 0, x.aim(1, 60));
        CHECK.row("22 nothing", x, 20, -40);
        x.set(2, 11);
        CHECK.due("22 from STAND", 5, x.aim(0, 0));
        CHECK.row("22 from STAND", x, 20, -40);
        CHECK.due("22 SETTINGS stay", 100, x.set(0, 100));
        CHECK.due("22 SETTINGS stay", 0, x.set(1, 0));
        CHECK.due("22 NONE", -1, x.aim(6, 0));
        CHECK.due("22 NONE", -1, x.aim(-1, 0));
        CHECK.due("22 NONE", -1, x.aim(0, 61));
        CHECK.due("22 NONE", -1, x.aim(0, -61));
        CHECK.row("22 the ROW stays", x, 20, -40);
        x = Check.barn("c9,1,0*5;s9,1,0*5");
        CHECK.due("22 none", 0, x.aim(0, 0));
        // this corn falls by 1 in a TICK, 20 times the WIND at least: OUT from 384 on
        x = Check.barn("c1,1,4*5;s9,1,0*5;y24");
        CHECK.due("22 a WIND", 5, x.aim(0, 19));
        CHECK.row("22 a WIND", x, 20, -40);
        CHECK.due("22 a WIND", 0, x.aim(0, 20));
    }

    private static void fan() {
        ChaffInTheWind x = Check.barn("c1,1,4*5;h1,1,4*3;h1,1,1*4;w1,1,4*8");
        x.set(0, 1);
        x.set(2, 11);
        CHECK.due("23 the greatest", 7, x.fan(0, 0));
        CHECK.row("23 chaff with corn", x, 7);
        CHECK.due("23 too few may go", 7, x.fan(0, 4));
        CHECK.due("23 all may go", 30, x.fan(0, 5));
        CHECK.row("23 no corn in YARDS", x, 0);
        x.sheet(1, 2, 2, 1, 2);
        CHECK.due("23 one grain of corn", 7, x.fan(1, 0));
        CHECK.row("23 one grain of corn", x, 3);
        x.sheet(1, 2, 2, 0, 2);
        CHECK.due("23 no corn", 30, x.fan(1, 0));
        CHECK.row("23 no corn", x, 0);
        x.set(2, 0);
        CHECK.due("23 chaff where corn would be", 30, x.fan(1, 0));
        CHECK.row("23 chaff where corn would be", x, 0);
        x.set(2, 11);
        x.set(0, 400);
        CHECK.due("23 no turn", 0, x.fan(0, 0));
        CHECK.row("23 no turn", x, 7);
        x.set(0, 1);
        x.sheet(1, 3, 0, 0, 0);
        CHECK.due("23 without corn", 30, x.fan(1, 0));
        CHECK.row("23 without corn", x, 0);
        CHECK.due("23 NONE", -1, x.fan(0, -1));
        CHECK.due("23 NONE", -1, x.fan(6, 0));
        CHECK.due("23 NONE", -1, x.fan(-1, 0));
        Check.text(x, "c9,1,0*2").barn();
        x.set(1, 40);
        CHECK.due("23 -2", -2, x.fan(0, 1));
        CHECK.row("23 the ROW stays", x, 0);
        CHECK.due("23 at 0 turns", 7, x.fan(0, 2));
        CHECK.row("23 the chaff that stays", x, 3);
    }

    private static void serves() {
        ChaffInTheWind x = low(0);
        CHECK.due("24 no WIND is told", 0, x.serves(0, 1));
        Check.wind(x, "15*1~20;16*1;-60*1;60*99;0*1;16*1");
        CHECK.due("24 bits", 2 + 8 + 32, x.serves(0, 1));
        CHECK.due("24 the other way", 2 + 8 + 32, x.serves(1, 0));
        CHECK.due("24 like ones", 0, x.serves(1, 1));
        Check.wind(x, "16*1;0*5");
        CHECK.due("24 the first", 1, x.serves(0, 1));
        CHECK.due("24 NONE", -1, x.serves(0, 2));
        CHECK.due("24 NONE", -1, x.serves(-1, 0));
    }

    private static void odds() {
        ChaffInTheWind x = low(0);
        Check.wind(x, "14*1~2;60*9~20;33*9");
        CHECK.due("25", 0, x.odds(1, 0, 0, 0));
        CHECK.row("25 some", x, 4, 5);
        x.odds(1, 0, 1, 1);
        CHECK.row("25 one", x, 1, 5);
        x.odds(1, 0, 2, 11);
        CHECK.row("25 none", x, 0, 1);
        x.odds(1, 0, 0, 1);
        CHECK.row("25 all", x, 1, 1);
        x.odds(1, 1, 3, 3);
        CHECK.row("25 put to 60", x, 33, 41);
        x.odds(1, 2, 2, 2);
        CHECK.row("25 without ~", x, 1, 1);
        x.set(2, 11);
        x.odds(1, 0, 0, 11);
        CHECK.row("25 not OUT", x, 4, 5);
        CHECK.due("25 NONE", -1, x.odds(2, 0, 0, 0));
        CHECK.due("25 NONE", -1, x.odds(1, 3, 0, 0));
        CHECK.due("25 NONE", -1, x.odds(1, -1, 0, 0));
        CHECK.due("25 NONE", -1, x.odds(1, 0, 1, 0));
        CHECK.due("25 NONE", -1, x.odds(1, 0, 0, 12));
        CHECK.due("25 NONE", -1, x.odds(1, 0, -1, 0));
        CHECK.row("25 the ROW stays", x, 4, 5);
        x.set(2, 0);
        x.odds(1, 1, 1, 2);
        CHECK.row("25 in lowest terms", x, 8, 41);
        Check.wind(x, "16*1~1");
        x.odds(1, 0, 1, 1);
        CHECK.row("25 in lowest terms", x, 2, 3);
        Check.wind(x, "16*1~4");
        x.odds(1, 0, 0, 2);
        CHECK.row("25 in lowest terms", x, 1, 1);
        Check.wind(x, "13*1~4");
        x.odds(1, 0, 1, 1);
        CHECK.row("25 2 of 9", x, 2, 9);
        Check.wind(x, "14*1~4");
        x.odds(1, 0, 1, 1);
        CHECK.row("25 3 of 9", x, 1, 3);
    }

    private static void kin() {
        ChaffInTheWind x = Check.barn("c9,1,0*1;h1,1,4*3;s2,7,0*0;w9,1,0*1;h1,2,5*1");
        CHECK.due("26 kin", 4 + 8, x.kin(0));
        CHECK.due("26 kin", 16, x.kin(1));
        CHECK.due("26 kin", 1 + 4, x.kin(3));
        CHECK.due("26 NONE", -1, x.kin(5));
        CHECK.due("26 NONE", -1, x.kin(-1));
        x.set(0, 1);
        x.set(4, 1);
        CHECK.due("26 none", 0, x.kin(1));
    }

    private static void sends() {
        ChaffInTheWind x = low(5);
        CHECK.due("27 the least size", 16, x.sends(1, 6));
        CHECK.row("27 winds", x, 16);
        CHECK.due("27 -1 is a WIND", -1, x.sends(1, 4));
        CHECK.row("27 its ROW", x, 16);
        CHECK.due("27 below 0", -49, x.sends(1, 1));
        CHECK.row("27 winds", x, 12);
        CHECK.due("27 all", 0, x.sends(0, 5));
        CHECK.row("27 all", x, 121);
        CHECK.due("27 none", -99, x.sends(0, 4));
        CHECK.due("27 none is OUT", -99, x.sends(1, 12));
        CHECK.row("27 the ROW stays", x, 121);
        CHECK.due("27 YARD", -1, x.sends(1, 13));
        CHECK.due("27 YARD", -1, x.sends(1, -1));
        CHECK.due("27 SORT", -1, x.sends(2, 0));
        CHECK.due("27 SORT", -1, x.sends(-1, 0));
        CHECK.row("27 the ROW stays", x, 121);
        x.set(2, 11);
        CHECK.due("27 OUT", 16, x.sends(1, 12));
        CHECK.row("27 OUT", x, 45);
    }
}
