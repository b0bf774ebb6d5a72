import java.util.NoSuchElementException;

/** What the tests share: it counts the answers that are not as due. */
final class Check {
    private final String name;
    private int wrong = 0;
    private int asked = 0;

    Check(String name) {
        this.name = name;
    }

    void due(String call, long want, long got) {
        asked++;
        if (want != got) {
            wrong++;
            System.out.println(name + ": " + call + " answered " + got + ", due is " + want);
        }
    }

    void due(String call, boolean want, boolean got) {
        due(call, want ? 1 : 0, got ? 1 : 0);
    }

    void due(String call, String want, String got) {
        asked++;
        if (!want.equals(got)) {
            wrong++;
            System.out.println(name + ": " + call + " answered " + got + ", due is " + want);
        }
    }

    /** The whole ROW. */
    void row(String call, ChaffInTheWind x, long... want) {
        due(call + " numbers of the ROW", want.length, x.count(8));
        for (int i = 0; i < want.length && i < x.count(8); i++) {
            due(call + " row " + i, want[i], x.row(i));
        }
        due(call + " row ends", true, isMissing(() -> x.row(want.length)));
    }

    void missing(String call, Runnable asks) {
        due(call + " throws NoSuchElementException", true, isMissing(asks));
    }

    static boolean isMissing(Runnable asks) {
        try {
            asks.run();
            return false;
        } catch (NoSuchElementException e) {
            return e.getClass() == NoSuchElementException.class;
        }
    }

    /** A TEXT, whatever stood there before. */
    static ChaffInTheWind text(ChaffInTheWind x, String signs) {
        x.end(0);
        for (int i = 0; i < signs.length(); i += 4) {
            int v = 0;
            for (int j = i; j < i + 4; j++) {
                v = v << 8 | (j < signs.length() ? signs.charAt(j) & 255 : 0);
            }
            x.sign(v);
        }
        x.end(signs.length());
        return x;
    }

    static ChaffInTheWind barn(String signs) {
        ChaffInTheWind x = new ChaffInTheWind();
        int lines = text(x, signs).barn();
        if (lines < 1) {
            throw new IllegalStateException(signs + " is refused: " + lines);
        }
        return x;
    }

    static int says(ChaffInTheWind x, int what, String signs) {
        return text(x, signs).says(what);
    }

    static int wind(ChaffInTheWind x, String signs) {
        return text(x, signs).wind();
    }

    int asked() {
        return asked;
    }

    int wrong() {
        return wrong;
    }

    void close() {
        System.out.println(name + ": " + asked + " answers, " + wrong + " not as due");
        if (wrong > 0) {
            System.exit(1);
        }
    }
}
