import java.io.IOException;
import java.nio.charset.StandardCharsets;
import java.nio.file.Files;
import java.nio.file.Path;
import java.util.LinkedHashSet;
import java.util.Set;
import java.util.function.Consumer;
import java.util.function.ToLongFunction;

/**
 * Sentences of the document that name a boundary case, each with a test of its own: the words are looked up in the
 * document, where it is told that they stand, and the test that belongs to them is run.
 */
final class Edges {
    /** The place of what stands in 'Terms'; the others are numbers of promises. */
    static final int TERMS = 0;
    private static final int PROMISES = 50;
    private static final Path DOCUMENT = Path.of("../shared/DOC.md");

    private final Check check = new Check("EdgesTest");
    private final String document;
    private final String wanted;
    private final Set<String> tested = new LinkedHashSet<>();
    private final boolean[] touched = new boolean[PROMISES + 1];
    private String at = "";

    /** All sentences, or, if a name is wanted, that one alone. */
    Edges(String wanted) {
        this.wanted = wanted;
        try {
            document = Files.readString(DOCUMENT, StandardCharsets.UTF_8);
        } catch (IOException e) {
            throw new IllegalStateException("the document can't be read: " + e);
        }
    }

    static String name(int place, String sentence) {
        return (place == TERMS ? "Terms" : "Promise " + place) + ": " + sentence;
    }

    /** The test of a sentence; two sentences of a place have different words. */
    void of(int place, String sentence, Runnable test) {
        String name = name(place, sentence);
        if (wanted != null && !wanted.equals(name)) {
            return;
        }
        at = name;
        touched[place] = true;
        check.due(name + " is tested once", true, tested.add(name));
        check.due(name + " stands in the document", true, section(place).contains(sentence));
        int before = check.asked();
        try {
            test.run();
        } catch (RuntimeException e) {
            check.due(name + " threw " + e, 0, 1);
        }
        check.due(name + " is tested", true, check.asked() > before);
    }

    private String section(int place) {
        String head = place == TERMS ? "## Terms" : "## Promise " + place + ":";
        int from = document.indexOf(head);
        if (from < 0) {
            return "";
        }
        int to = document.indexOf("\n## ", from);
        return to < 0 ? document.substring(from) : document.substring(from, to);
    }

    void due(String call, long want, long got) {
        check.due(at + " | " + call, want, got);
    }

    void due(String call, boolean want, boolean got) {
        check.due(at + " | " + call, want, got);
    }

    void row(String call, ChaffInTheWind x, long... want) {
        check.row(at + " | " + call, x, want);
    }

    void missing(String call, Runnable asks) {
        check.missing(at + " | " + call, asks);
    }

    /** Such a call answers NONE, and all is as it would be without it. */
    void refused(String call, ToLongFunction<ChaffInTheWind> asks) {
        unanswered(call, ChaffInTheWind.NONE, asks);
    }

    /** Such a call answers a number below 0 that is no answer, and all is as it would be without it. */
    void unanswered(String call, long due, ToLongFunction<ChaffInTheWind> asks) {
        ChaffInTheWind x = Barns.busy();
        due(call, due, asks.applyAsLong(x));
        same(call + " changes nothing", Barns.busy(), x);
    }

    /** Such a call throws, and all is as it would be without it. */
    void refusedByThrow(String call, Consumer<ChaffInTheWind> asks) {
        ChaffInTheWind x = Barns.busy();
        missing(call, () -> asks.accept(x));
        same(call + " changes nothing", Barns.busy(), x);
    }

    /** Such a text is refused at the place p; it is gone, and all else is as it was. */
    void refusedText(String text, int p, ToLongFunction<ChaffInTheWind> reads) {
        ChaffInTheWind x = Check.text(Barns.busy(), text);
        due("'" + text + "'", -1 - p, reads.applyAsLong(x));
        ChaffInTheWind y = Barns.busy();
        y.end(0);
        same("'" + text + "' changes nothing", y, x);
    }

    /** Both answer alike from here on. */
    void same(String call, ChaffInTheWind due, ChaffInTheWind got) {
        check.due(at + " | " + call, true, Barns.all(due).equals(Barns.all(got)));
    }

    Set<String> tested() {
        return tested;
    }

    int wrong() {
        return check.wrong();
    }

    /** Each promise has one sentence at least. */
    void close() {
        for (int place = TERMS; place <= PROMISES; place++) {
            check.due(name(place, "has a sentence that is tested"), true, touched[place]);
        }
        check.close();
    }
}
