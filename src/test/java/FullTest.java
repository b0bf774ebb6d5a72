/** All calls with as many SORTS, YARDS, PASSES and LINES as there may be. */
public final class FullTest {
    private static final Check CHECK = new Check("FullTest");
    private static final int ALL = 1023;

    public static void main(String[] args) {
        ChaffInTheWind x = Check.barn("c9,9,0*9;".repeat(7) + "y24");
        CHECK.due("4 full", 3, Check.text(x, "h1,1,4*9;w9,5,0*9;s9,7,0*9").barn());
        CHECK.due("49 SORTS", 10, x.count(0));
        CHECK.due("5 full", 10, Check.wind(x, "0*1;".repeat(9) + "0*1"));
        Check.says(x, 0, "c+n+k");
        Check.says(x, 3, "k=i*3");
        x.set(0, 1);
        x.set(3, 99);
        asks(x);
        moves(x);
        CHECK.close();
    }

    private static void asks(ChaffInTheWind x) {
        CHECK.due("8 the last", 3, x.sort(9, 0));
        CHECK.due("9 the last", 9, x.has(0, 9));
        CHECK.due("12 the last", 0, x.lands(9, 60));
        CHECK.due("19 the last", 45, x.parts(9, 7));
        CHECK.due("20 all", 14, x.never());
        CHECK.row("20 the first", x, 0, 8);
        CHECK.due("26 all", ALL - 1 - 128, x.kin(0));
        CHECK.due("21 all", 0, x.best(0));
        CHECK.row("21 all", x, 0, 0);
        CHECK.due("22 all", 0, x.aim(0, 60));
        CHECK.due("23 all", 30, x.fan(0, 0));
        CHECK.row("23 all", x, 0);
        CHECK.due("24 all", 0, x.serves(0, 7));
        CHECK.due("25 the last", 0, x.odds(9, 9, 0, 23));
        CHECK.due("27 OUT", -99, x.sends(9, 24));
        CHECK.due("28 all", 567 + 90 + 7, x.price(0, 0));
        CHECK.due("29 all", 664, x.worth(0));
        CHECK.due("31 the last", 1000, x.may(0, 9, 600));
        CHECK.due("32 all", 0, x.bushel(0, 90));
        CHECK.row("32 all", x, 738, 738);
        CHECK.due("33 all", 7, x.away(0));
        CHECK.row("33 all", x, -9);
        CHECK.due("34 one more SORT of corn", 1, x.shift(0, 1, 0));
        CHECK.row("34 one more SORT of corn", x, 665);
        for (int i = 0; i < 7; i++) {
            CHECK.due("36 all", i, x.hole(8, true));
        }
        CHECK.due("37 all", 127, x.stays(6));
        CHECK.due("38 all", 1, x.order(0, 100, 100));
        CHECK.row("38 all", x, 1);
        CHECK.due("39 all", 1, x.needed(0, 100, 100));
        CHECK.due("40 all", 256, x.strokes(0));
        CHECK.row("40 all", x, 0, 0);
        CHECK.due("41 all", 0, x.find(ALL - 127));
        CHECK.due("41 none such", -1, x.find(ALL + 1));
        CHECK.due("43 all", 9, x.heavy(0));
        CHECK.row("43 all", x, 9, 1, 1);
        CHECK.due("44 all", 0, x.sample(0, 1));
        CHECK.row("44 all", x, 7, 10);
        CHECK.due("45 all", 1, x.grains(0, 30));
    }

    private static void moves(ChaffInTheWind x) {
        CHECK.due("47", true, x.keep(0));
        CHECK.due("13 all", 1, x.go(0, 500));
        CHECK.due("10 all", 9, x.lies(0, 9));
        CHECK.due("10 OUT", 0, x.lies(24, 9));
        CHECK.due("30 all", 664, x.marks(4));
        CHECK.row("30 all", x, 1);
        CHECK.due("15 all", 90, x.gather(0, 23, 5));
        CHECK.due("16 all", 90, x.mix(5, 4));
        CHECK.due("17 some", 27, x.sieve(4, 9, 3));
        CHECK.due("18 some", 9, x.stroke(3, 9, 2));
        CHECK.due("18 some", 9, x.has(2, 9));
        CHECK.due("48", true, x.again(0));
        CHECK.due("11 all", 10 * 11 / 2, x.sheet(5, 2, 10, 1, 1));
        CHECK.due("11 the last", 10, x.has(5, 9));
        x.set(2, 23);
        CHECK.due("13 another HEAP", 1, x.go(5, 1));
        CHECK.due("10 the last YARD", 10, x.lies(23, 9));
        CHECK.due("15 the last YARD", 55, x.gather(23, 23, 5));
    }
}
