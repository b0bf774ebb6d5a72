/** Promises 46 to 50: kept. */
final class KeptEdges {
    private static final int MOST = Integer.MAX_VALUE;
    private static final int LEAST = Integer.MIN_VALUE;

    private final Edges edges;

    KeptEdges(Edges edges) {
        this.edges = edges;
    }

    void run() {
        edges.of(46, "R becomes v: what it was.", this::seeds);
        edges.of(47, "HEAPS, what lies in YARDS, OUT, THROWS, R are kept", this::whatIsKept);
        edges.of(47, "under a number 0 .. 2: true", this::keeps);
        edges.of(47, "Refused: others.", this::keepRefused);
        edges.of(48, "(of SORTS told since there are none)", this::sortsToldSince);
        edges.of(48, "Refused: nothing kept", this::nothingKept);
        edges.of(48, "LONG is another one.", this::longIsAnother);
        edges.of(49, "What 0: SORTS, 1: LONG, 2: THROWS", this::counts);
        edges.of(49, "3: PRICES and LAW told (bits 0 .. 3)", this::told);
        edges.of(49, "NONE for another what", this::countNone);
        edges.of(50, "Number i of the ROW.", this::rows);
        edges.of(50, "NoSuchElementException: none such.", this::noRow);
    }

    private void seeds() {
        ChaffInTheWind x = new ChaffInTheWind();
        int[] all = {1, 0, -1, MOST, LEAST, 7};
        for (int i = 1; i < all.length; i++) {
            edges.due("R " + all[i - 1], all[i - 1], x.seed(all[i]));
        }
    }

    // ---- promises 47, 48

    private void whatIsKept() {
        ChaffInTheWind x = Barns.low(11);
        Check.wind(x, "16*1;-9*3~4");
        x.set(3, 3);
        x.go(0, 2);
        x.seed(99);
        x.keep(0);
        int[] before = {x.has(0, 0), x.has(0, 1), x.lies(11, 0), x.lies(10, 1), x.lies(12, 1), x.count(2)};
        x.go(0, 9);
        x.set(1, 40);
        x.sheet(5, 2, 2, 8, 0);
        x.set(3, 9);
        x.go(5, 1);
        x.mix(5, 4);
        x.sheet(5, 2, 2, 8, 0);
        edges.due("more is OUT than was", true, x.count(7) > before[4]);
        edges.due("again", true, x.again(0));
        int[] after = {x.has(0, 0), x.has(0, 1), x.lies(11, 0), x.lies(10, 1), x.lies(12, 1), x.count(2)};
        for (int i = 0; i < before.length; i++) {
            edges.due("number " + i, before[i], after[i]);
        }
        edges.due("no other HEAP", 0, x.has(4, 0) + x.has(4, 1) + x.has(5, 0) + x.has(5, 1));
        edges.due("all grains", 8, x.count(5) + x.count(6) + x.count(7));
        edges.due("R", 99, x.seed(1));
        edges.due("SETTINGS are not kept", 9, x.set(3, 3));
        x = Barns.one("c9,1,0*9;y24");
        x.set(3, 1);
        for (int yard = 0; yard < 24; yard += 23) {
            x.set(2, yard);
            x.go(0, 1);
        }
        x.keep(2);
        x.gather(0, 23, 1);
        x.again(2);
        edges.due("the first YARD", 1, x.lies(0, 0));
        edges.due("the last YARD", 1, x.lies(23, 0));
    }

    private void keeps() {
        ChaffInTheWind x = Check.barn("c9,1,0*5");
        for (int i = 0; i < 3; i++) {
            x.seed(100 + i);
            edges.due("number " + i, true, x.keep(i));
        }
        for (int i = 2; i >= 0; i--) {
            edges.due("number " + i, true, x.again(i));
            edges.due("its own R", 100 + i, x.seed(7));
        }
        edges.due("anew", true, x.keep(1));
        edges.due("anew", true, x.again(1));
        edges.due("the later one", 7, x.seed(8));
        edges.due("more than once", true, x.again(1));
        edges.due("more than once", 7, x.seed(8));
        edges.due("an empty barn", true, new ChaffInTheWind().keep(2));
    }

    private void keepRefused() {
        int[] others = {3, -1, MOST, LEAST};
        for (int o : others) {
            edges.unanswered("keep(" + o + ")", 0, x -> x.keep(o) ? 1 : 0);
        }
    }

    private void sortsToldSince() {
        ChaffInTheWind x = Barns.low(11);
        x.keep(0);
        Check.text(x, "w1,1,4*9;s9,1,0*5").barn();
        x.set(3, 99);
        Check.wind(x, "16*1");
        x.go(0, 1);
        x.sheet(3, 2, 4, 6, 0);
        edges.due("again", true, x.again(0));
        edges.due("SORTS stay", 4, x.count(0));
        for (int s = 2; s < 4; s++) {
            edges.due("none in HEAPS", 0, x.has(0, s) + x.has(3, s));
            edges.due("none lies", 0, x.lies(11, s) + x.lies(12, s));
        }
        edges.due("those told ahead of it", 8, x.has(0, 0) + x.has(0, 1));
        edges.due("all", 8, x.count(5) + x.count(6) + x.count(7));
        x = new ChaffInTheWind();
        x.keep(2);
        Check.text(x, "w1,1,4*9").barn();
        edges.due("of an empty barn", true, x.again(2));
        edges.due("none", 0, x.count(5));
    }

    private void nothingKept() {
        int[] others = {0, 3, -1, MOST, LEAST};
        for (int o : others) {
            edges.unanswered("again(" + o + ")", 0, x -> x.again(o) ? 1 : 0);
        }
        ChaffInTheWind x = new ChaffInTheWind();
        for (int i = 0; i < 3; i++) {
            edges.due("number " + i, false, x.again(i));
        }
        x.keep(1);
        edges.due("0", false, x.again(0));
        edges.due("1", true, x.again(1));
        edges.due("2", false, x.again(2));
    }

    private void longIsAnother() {
        ChaffInTheWind x = Barns.low(5);
        x.go(0, 1);
        x.keep(0);
        x.gather(0, 11, 3);
        Check.text(x, "y13").barn();
        edges.due("longer", false, x.again(0));
        Check.text(x, "y11").barn();
        edges.due("shorter", false, x.again(0));
        edges.due("nothing changes", 8, x.has(3, 0) + x.has(3, 1));
        x.keep(1);
        Check.text(x, "y12").barn();
        edges.due("as long again", true, x.again(0));
        edges.due("it lies", 8, x.count(6));
        edges.due("not the other one", false, x.again(1));
        edges.due("it lies still", 8, x.lies(5, 0) + x.lies(5, 1));
    }

    // ---- promises 49, 50

    private void counts() {
        ChaffInTheWind x = Barns.busy();
        int[] due = {4, 6, 4, 3 + 8, 2, 18 + 16 + 9, 0, 0, 3, 2};
        due[7] = x.lies(6, 0) + x.lies(6, 1) + x.lies(6, 2) + x.lies(6, 3);
        due[6] = 28 - due[7];
        edges.due("some are OUT, some lie", true, due[6] > 0 && due[7] > 0);
        for (int what = 0; what < 10; what++) {
            edges.due("what " + what, due[what], x.count(what));
        }
        x = Check.barn("c9,9,9*9;".repeat(7) + "c9,9,9*9");
        Check.text(x, "c9,9,9*9;y24;c9,9,9*9").barn();
        Check.text(x, "y".repeat(80));
        edges.due("ten SORTS", 10, x.count(0));
        edges.due("24 YARDS", 24, x.count(1));
        edges.due("all grains", 90, x.count(5));
        edges.due("80 signs", 80, x.count(9));
    }

    private void told() {
        ChaffInTheWind x = new ChaffInTheWind();
        int bits = 0;
        for (int what = 3; what >= 0; what--) {
            edges.due("refused", -1, Check.says(x, what, "x"));
            edges.due("refused", bits, x.count(3));
            Check.says(x, what, "0");
            bits |= 1 << what;
            edges.due("text " + what, bits, x.count(3));
        }
        Check.says(x, 2, "");
        edges.due("without one", 11, x.count(3));
    }

    private void countNone() {
        int[] others = {10, -1, MOST, LEAST};
        for (int o : others) {
            edges.refused("count(" + o + ")", x -> x.count(o));
        }
    }

    private void rows() {
        ChaffInTheWind x = Barns.busy();
        long[] due = {1, 5, 0};
        for (int i = 2; i >= 0; i--) {
            edges.due("number " + i, due[i], x.row(i));
        }
        x.await(10, 10, 999, 999, 0);
        edges.due("a long one", 9990000000000L, x.row(0));
    }

    private void noRow() {
        int[] others = {3, -1, 4, MOST, LEAST};
        for (int o : others) {
            edges.refusedByThrow("row(" + o + ")", x -> x.row(o));
        }
        edges.missing("of a new object", () -> new ChaffInTheWind().row(0));
        ChaffInTheWind x = Barns.busy();
        x.go(5, 0);
        edges.missing("of a shorter ROW", () -> x.row(1));
        edges.due("the one there is", 0, x.row(0));
    }
}
