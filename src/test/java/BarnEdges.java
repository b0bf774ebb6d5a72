/** Promises 7 to 11: SETTINGS, what is there, sheets. */
final class BarnEdges {
    private static final int MOST = Integer.MAX_VALUE;
    private static final int LEAST = Integer.MIN_VALUE;

    private final Edges edges;

    BarnEdges(Edges edges) {
        this.edges = edges;
    }

    void run() {
        edges.of(7, "A SETTING becomes v: what it was.", this::becomes);
        edges.of(7, "Refused: others.", this::otherSettings);
        edges.of(8, "what 0: KIND, 1: WEIGHT, 2: SIZE, 3: DRAG", this::ofSorts);
        edges.of(8, "NoSuchElementException: none such, another what", this::noSort);
        edges.of(9, "NONE: none such", this::hasNone);
        edges.of(10, "(LONG: OUT)", this::liesOut);
        edges.of(10, "NONE: none such", this::liesNone);
        edges.of(11, "bytes (kind 0), shorts (1), ints (2)", this::kindsOfSheets);
        edges.of(11, "of n entries f, f + step, ..", this::entries);
        edges.of(11, "(of bytes, shorts the lowest bits, with their sign; put to 0 .. 999)", this::lowestBits);
        edges.of(11, "put to 0 .. 999", this::put);
        edges.of(11, "those behind it have none", this::behind);
        edges.of(11, "(entries beyond them are left aside)", this::beyond);
        edges.of(11, "-2: n below 0 (of kinds 0 .. 2; nothing changes)", this::below0);
        edges.of(11, "-3: missing (none of all)", this::missing);
        edges.of(11, "NONE: another HEAP, kind, n above 10 (these first)", this::refused);
    }

    private void becomes() {
        ChaffInTheWind x = new ChaffInTheWind();
        int[] first = {100, 0, 0, 20, 0};
        int[] least = {1, -40, 0, 1, 0};
        for (int what = 0; what < 5; what++) {
            edges.due("SETTING " + what, first[what], x.set(what, 7));
            edges.due("SETTING " + what, 7, x.set(what, 7));
            edges.due("SETTING " + what, 7, x.set(what, least[what]));
        }
        for (int what = 0; what < 5; what++) {
            edges.due("SETTING " + what + " is its own", least[what], x.set(what, 2));
        }
    }

    private void otherSettings() {
        int[][] others = {{0, 0}, {0, 401}, {1, -41}, {1, 41}, {2, -1}, {2, 6}, {3, 0}, {3, 100}, {4, -1}, {4, 51}, {-1, 1}, {5, 1},
            {0, LEAST}, {0, MOST}, {1, LEAST}, {1, MOST}, {2, MOST}, {3, LEAST}, {4, MOST}, {LEAST, 1}, {MOST, 1}};
        for (int[] o : others) {
            edges.refused("set(" + o[0] + ", " + o[1] + ")", x -> x.set(o[0], o[1]));
        }
    }

    private void ofSorts() {
        ChaffInTheWind x = Check.barn("c1,1,0*0;s99,60,60*999");
        int[][] due = {{0, 1, 1, 0}, {3, 99, 60, 60}};
        for (int s = 0; s < 2; s++) {
            for (int what = 0; what < 4; what++) {
                edges.due("SORT " + s + " what " + what, due[s][what], x.sort(s, what));
            }
        }
    }

    private void noSort() {
        int[][] others = {{4, 0}, {-1, 0}, {0, 4}, {0, -1}, {MOST, 0}, {LEAST, 0}, {0, MOST}, {3, LEAST}};
        for (int[] o : others) {
            edges.refusedByThrow("sort(" + o[0] + ", " + o[1] + ")", x -> x.sort(o[0], o[1]));
        }
        edges.missing("of an empty barn", () -> new ChaffInTheWind().sort(0, 0));
    }

    private void hasNone() {
        int[][] others = {{6, 0}, {-1, 0}, {0, 4}, {0, -1}, {MOST, 0}, {LEAST, 3}, {5, MOST}, {5, LEAST}};
        for (int[] o : others) {
            edges.refused("has(" + o[0] + ", " + o[1] + ")", x -> x.has(o[0], o[1]));
        }
        edges.due("0 is there", 0, Barns.busy().has(5, 3));
    }

    private void liesOut() {
        ChaffInTheWind x = Barns.low(11);
        Check.wind(x, "16*1");
        x.go(0, 1);
        edges.due("the last YARD", 5, x.lies(11, 0));
        edges.due("OUT", 3, x.lies(12, 1));
        edges.due("none of the other one", 0, x.lies(12, 0));
        edges.due("behind OUT", -1, x.lies(13, 1));
        Check.text(x, "y24").barn();
        edges.due("OUT of a longer barn", 3, x.lies(24, 1));
        edges.due("a YARD now", 0, x.lies(12, 1));
    }

    private void liesNone() {
        int[][] others = {{7, 0}, {-1, 0}, {0, 4}, {0, -1}, {6, 4}, {MOST, 0}, {LEAST, 0}, {0, MOST}, {0, LEAST}};
        for (int[] o : others) {
            edges.refused("lies(" + o[0] + ", " + o[1] + ")", x -> x.lies(o[0], o[1]));
        }
    }

    // ---- sheets

    /** What a sheet of one entry makes of it. */
    private void entry(int kind, int v, int due) {
        ChaffInTheWind x = Check.barn("c9,1,0*5");
        edges.due("kind " + kind + " of " + v, due, x.sheet(0, kind, 1, v, 0));
        edges.due("kind " + kind + " of " + v + " is there", due, x.has(0, 0));
    }

    private void kindsOfSheets() {
        entry(0, 300, 300 - 256);
        entry(1, 300, 300);
        entry(2, 300, 300);
        entry(1, 65536 + 300, 300);
        entry(2, 65536 + 300, 999);
    }

    private void entries() {
        ChaffInTheWind x = Check.barn("c9,1,0*5;h9,1,0*5;w9,1,0*5");
        edges.due("none", 0, x.sheet(0, 2, 0, 7, 7));
        edges.due("one", 7, x.sheet(0, 2, 1, 7, 7));
        edges.due("three", 7 + 14 + 21, x.sheet(0, 2, 3, 7, 7));
        edges.due("down", 20 + 10, x.sheet(0, 2, 3, 20, -10));
        edges.due("they wrap around", 0, x.sheet(0, 2, 2, MOST, 1) - 999);
        edges.due("far down", 0, x.has(0, 1));
        edges.due("and up again", 998 + 996, x.sheet(0, 2, 3, 998, MOST));
        edges.due("and up again", 996, x.has(0, 2));
        edges.due("and up again from below", 5, x.sheet(0, 2, 2, LEAST, LEAST + 5));
    }

    private void lowestBits() {
        int[][] bytes = {{0, 0}, {1, 1}, {127, 127}, {128, 0}, {255, 0}, {256, 0}, {257, 1}, {256 + 127, 127}, {-1, 0}, {-128, 0},
            {-129, 127}, {-255, 1}, {MOST, 0}, {LEAST, 0}, {LEAST + 9, 9}};
        for (int[] b : bytes) {
            entry(0, b[0], b[1]);
        }
        int[][] shorts = {{0, 0}, {998, 998}, {32767, 999}, {32768, 0}, {65535, 0}, {65536, 0}, {65537, 1}, {65536 + 998, 998}, {-1, 0},
            {-32768, 0}, {-32769, 999}, {-65535, 1}, {MOST, 0}, {LEAST, 0}, {LEAST + 9, 9}};
        for (int[] s : shorts) {
            entry(1, s[0], s[1]);
        }
    }

    private void put() {
        for (int kind = 1; kind <= 2; kind++) {
            entry(kind, -1, 0);
            entry(kind, 0, 0);
            entry(kind, 998, 998);
            entry(kind, 999, 999);
            entry(kind, 1000, 999);
        }
        entry(2, MOST, 999);
        entry(2, LEAST, 0);
    }

    private void behind() {
        ChaffInTheWind x = Check.barn("c9,1,0*5;h9,1,0*6;w9,1,0*7");
        edges.due("one", 9, x.sheet(0, 0, 1, 9, 0));
        edges.due("the second", 0, x.has(0, 1));
        edges.due("the third", 0, x.has(0, 2));
        x.sheet(0, 0, 3, 9, 0);
        edges.due("two", 18, x.sheet(0, 1, 2, 9, 0));
        edges.due("the third", 0, x.has(0, 2));
        edges.due("none", 0, x.sheet(0, 2, 0, 9, 0));
        edges.due("nothing is left", 0, x.count(5));
    }

    private void beyond() {
        ChaffInTheWind x = Check.barn("c9,1,0*5;h9,1,0*6");
        edges.due("3 of 2", 9 + 10, x.sheet(0, 0, 3, 9, 1));
        edges.due("10 of 2", 9 + 10, x.sheet(3, 2, 10, 9, 1));
        edges.due("a SORT told then has none", 1, Check.text(x, "w1,1,1*0").barn());
        edges.due("a SORT told then has none", 0, x.has(0, 2) + x.has(3, 2));
        edges.due("all that there are", 38, x.count(5));
        edges.due("of an empty barn", 0, new ChaffInTheWind().sheet(0, 2, 10, 9, 1));
    }

    private void below0() {
        for (int kind = 0; kind <= 2; kind++) {
            int k = kind;
            edges.unanswered("kind " + kind, -2, x -> x.sheet(1, k, -1, 1, 1));
            edges.unanswered("far below, kind " + kind, -2, x -> x.sheet(0, k, LEAST, 1, 1));
        }
    }

    private void missing() {
        int[] numbers = {0, 3, 10, -1, LEAST};
        for (int n : numbers) {
            ChaffInTheWind x = Barns.busy();
            int before = x.count(5);
            int there = x.has(1, 0) + x.has(1, 1) + x.has(1, 2) + x.has(1, 3);
            edges.due("n " + n, -3, x.sheet(1, 3, n, 5, 1));
            edges.due("none of all", 0, x.has(1, 0) + x.has(1, 1) + x.has(1, 2) + x.has(1, 3));
            edges.due("other HEAPS stay", before - there, x.count(5));
            edges.row("the ROW stays", x, 1, 5, 0);
        }
    }

    private void refused() {
        int[][] others = {{6, 0, 1}, {-1, 0, 1}, {1, 4, 1}, {1, -1, 1}, {1, 0, 11}, {1, 1, 11}, {1, 2, 11}, {1, 3, 11}, {6, 3, 1},
            {6, 0, -1}, {1, 4, -1}, {1, -1, -1}, {MOST, 0, 1}, {LEAST, 3, 1}, {1, MOST, 1}, {1, LEAST, 1}, {1, 2, MOST}};
        for (int[] o : others) {
            edges.refused("sheet(" + o[0] + ", " + o[1] + ", " + o[2] + ")", x -> x.sheet(o[0], o[1], o[2], 3, 1));
        }
        edges.due("10", 4, Barns.busy().sheet(1, 2, 10, 1, 0));
    }
}
