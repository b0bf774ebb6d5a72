import java.util.ArrayList;
import java.util.List;
import java.util.NoSuchElementException;

/** Barns that the tests of edges share, and all that can be asked of one. */
final class Barns {
    private static final long NOTHING_THERE = Long.MIN_VALUE;

    private Barns() {
    }

    /** Something of everything: grains in HEAPS 0, 1 and 2, in YARDS and OUT, a ROW of three, a TEXT of two signs. */
    static ChaffInTheWind busy() {
        ChaffInTheWind x = Check.barn("c9,5,0*9;h1,3,4*27;w5,9,1*5;s40,12,0*3;y6");
        Check.wind(x, "16*2~3;-20*1");
        Check.says(x, 0, "c-w");
        Check.says(x, 1, "n");
        Check.says(x, 3, "(i=3)*(k=2)");
        x.set(0, 1);
        x.set(2, 5);
        x.set(3, 7);
        x.keep(1);
        x.go(0, 4);
        x.sheet(1, 2, 4, 3, 1);
        x.keep(2);
        x.sheet(2, 2, 3, 5, -2);
        x.hole(4, true);
        x.blow(16, 0, 2);
        x.lands(1, 5);
        return Check.text(x, "y5");
    }

    /** At HEIGHT 1 SORT 0 (5 grains of corn) lands where one stands, SORT 1 (3 of chaff) by 16 of the WIND from there. */
    static ChaffInTheWind low(int stand) {
        ChaffInTheWind x = Check.barn("c9,1,0*5;h1,1,4*3");
        x.set(0, 1);
        x.set(2, stand);
        return x;
    }

    /** Like low, from YARD 0, and SORT 0 alone: chaff or what its LINE tells. */
    static ChaffInTheWind one(String line) {
        ChaffInTheWind x = Check.barn(line);
        x.set(0, 1);
        return x;
    }

    /** So many grains of corn (SORT 0) and of weeds (SORT 1), of WEIGHT 1 both, in each YARD. */
    static ChaffInTheWind lying(int[][] grains) {
        ChaffInTheWind x = Check.barn("c1,1,0*0;w1,1,0*0;y" + grains.length);
        x.set(0, 1);
        x.set(3, 99);
        for (int yard = 0; yard < grains.length; yard++) {
            x.set(2, yard);
            x.sheet(0, 2, 2, grains[yard][0], grains[yard][1] - grains[yard][0]);
            x.go(0, 1);
        }
        return x;
    }

    /** An R by which the next DRAW of n answers want. */
    static int seedFor(int n, int want) {
        for (int r = 0; r < 1_000_000; r++) {
            if (((r * 1103515245 + 12345) >>> 16) % n == want) {
                return r;
            }
        }
        throw new IllegalStateException("no R for a DRAW of " + n + " that answers " + want);
    }

    /** All that an object answers of itself, the ROW and THE TEXT too; it is not as it was then. */
    static List<Long> all(ChaffInTheWind x) {
        List<Long> all = new ArrayList<>();
        for (int what = 0; what <= 9; what++) {
            all.add((long) x.count(what));
        }
        addRow(all, x);
        addBarn(all, x);
        addGrains(all, x);
        addSettings(all, x);
        addTold(all, x);
        for (int i = 0; i < 3; i++) {
            all.add(x.again(i) ? 1L : 0L);
            addGrains(all, x);
            all.add((long) x.count(2));
        }
        all.add((long) x.barn());
        all.add((long) x.count(0));
        all.add((long) x.count(1));
        return all;
    }

    private static void addRow(List<Long> all, ChaffInTheWind x) {
        for (int i = x.count(8) - 1; i >= 0; i--) {
            all.add(x.row(i));
        }
    }

    private static void addBarn(List<Long> all, ChaffInTheWind x) {
        for (int s = x.count(0) - 1; s >= 0; s--) {
            for (int what = 0; what < 4; what++) {
                all.add((long) x.sort(s, what));
            }
        }
    }

    private static void addGrains(List<Long> all, ChaffInTheWind x) {
        int sorts = x.count(0);
        int yards = x.count(1);
        for (int s = 0; s < sorts; s++) {
            for (int heap = 0; heap < 6; heap++) {
                all.add((long) x.has(heap, s));
            }
            for (int yard = 0; yard <= yards; yard++) {
                all.add((long) x.lies(yard, s));
            }
        }
    }

    private static void addSettings(List<Long> all, ChaffInTheWind x) {
        for (int what = 0; what < 5; what++) {
            int is = x.set(what, 1);
            all.add((long) is);
            x.set(what, is);
        }
        int r = x.seed(0);
        all.add((long) r);
        x.seed(r);
    }

    private static void addTold(List<Long> all, ChaffInTheWind x) {
        for (int price = 0; price < 3; price++) {
            all.add(priceOf(x, price));
        }
        for (int pass = 0; pass < 7; pass++) {
            all.add((long) x.stays(pass));
        }
        all.add((long) x.strokes(1));
        addRow(all, x);
        all.add((long) x.serves(0, 1));
        all.add((long) x.odds(1, 0, 0, x.count(1) - 1));
        addRow(all, x);
        all.add((long) x.blows());
        addRow(all, x);
    }

    private static long priceOf(ChaffInTheWind x, int price) {
        try {
            return x.price(price, 1);
        } catch (NoSuchElementException e) {
            return NOTHING_THERE;
        }
    }
}
