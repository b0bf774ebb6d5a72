import java.io.ByteArrayOutputStream;
import java.io.IOException;
import java.io.InputStream;
import java.io.OutputStream;
import java.io.PrintStream;
import java.io.StringWriter;
import java.lang.reflect.InvocationTargetException;
import java.lang.reflect.Method;
import java.net.URI;
import java.nio.file.Files;
import java.nio.file.Path;
import java.util.ArrayList;
import java.util.HashMap;
import java.util.LinkedHashMap;
import java.util.List;
import java.util.Map;
import javax.tools.FileObject;
import javax.tools.ForwardingJavaFileManager;
import javax.tools.JavaCompiler;
import javax.tools.JavaFileManager;
import javax.tools.JavaFileObject;
import javax.tools.SimpleJavaFileObject;
import javax.tools.ToolProvider;

/**
 * Run by hand, not by .ci/run: breaks the class in the ways of src/test/breaks.txt, and tells each break that the
 * test of its sentence in EdgesTest, run alone, does not see, and each sentence without a break. It hangs on the words
 * of the source, so that a break whose words are there no more is told, too, and should be written anew.
 */
public final class Breaks {
    private static final Path SOURCE = Path.of("src/main/java/ChaffInTheWind.java");
    private static final Path BREAKS = Path.of("src/test/breaks.txt");
    private static final String BROKEN = "ChaffInTheWind";

    private final JavaCompiler compiler = ToolProvider.getSystemJavaCompiler();
    private final String source;
    private int unseen = 0;

    private Breaks(String source) {
        this.source = source;
    }

    /** A way to break the class: behind the words of the place the first such words become others. */
    private record Break(String sentence, String place, String old, String anew) {
    }

    public static void main(String[] args) throws Exception {
        Map<String, List<Break>> all = read();
        Breaks breaks = new Breaks(Files.readString(SOURCE));
        int asked = 0;
        for (String sentence : EdgesTest.names()) {
            List<Break> own = all.remove(sentence);
            if (own == null) {
                breaks.tell("no break of: " + sentence);
                continue;
            }
            for (Break b : own) {
                asked++;
                breaks.look(b);
            }
        }
        for (String sentence : all.keySet()) {
            breaks.tell("no test of: " + sentence);
        }
        System.out.println(asked + " breaks, " + breaks.unseen + " to be told");
        if (breaks.unseen > 0) {
            System.exit(1);
        }
    }

    /** The file: a line * with the sentence, then lines @ (where), - (words), + (others in their place), again and again. */
    private static Map<String, List<Break>> read() throws IOException {
        Map<String, List<Break>> all = new LinkedHashMap<>();
        String sentence = "";
        String place = "";
        String old = "";
        for (String line : Files.readAllLines(BREAKS)) {
            if (line.length() < 2) {
                continue;
            }
            String rest = line.substring(2);
            switch (line.charAt(0)) {
                case '*':
                    sentence = rest;
                    break;
                case '@':
                    place = rest;
                    break;
                case '-':
                    old = rest;
                    break;
                case '+':
                    all.computeIfAbsent(sentence, s -> new ArrayList<>()).add(new Break(sentence, place, old, rest));
                    break;
                default:
                    break;
            }
        }
        return all;
    }

    private void tell(String what) {
        unseen++;
        System.out.println(what);
    }

    private void look(Break b) throws Exception {
        int place = source.indexOf(b.place());
        int at = place < 0 ? -1 : source.indexOf(b.old(), place);
        if (at < 0) {
            tell("not in the source: " + b);
            return;
        }
        Map<String, byte[]> classes = compile(source.substring(0, at) + b.anew() + source.substring(at + b.old().length()));
        if (classes == null) {
            tell("does not compile: " + b);
        } else if (wrongOf(new Loader(classes), b.sentence()) <= 0) {
            tell("not seen: " + b);
        }
    }

    private static int wrongOf(Loader loader, String sentence) throws Exception {
        PrintStream out = System.out;
        System.setOut(new PrintStream(OutputStream.nullOutputStream()));
        try {
            Method asks = loader.loadClass("EdgesTest").getDeclaredMethod("wrongOf", String.class);
            asks.setAccessible(true);
            return (Integer) asks.invoke(null, sentence);
        } catch (InvocationTargetException e) {
            return 1;
        } finally {
            System.setOut(out);
        }
    }

    // ---- compiling and loading, in memory alone

    private Map<String, byte[]> compile(String broken) {
        Map<String, ByteArrayOutputStream> written = new HashMap<>();
        JavaFileManager files = new ForwardingJavaFileManager<>(compiler.getStandardFileManager(null, null, null)) {
            @Override
            public JavaFileObject getJavaFileForOutput(Location where, String name, JavaFileObject.Kind kind, FileObject sibling) {
                return new SimpleJavaFileObject(URI.create("memory:///" + name.replace('$', '_') + ".class"), kind) {
                    @Override
                    public OutputStream openOutputStream() {
                        return written.computeIfAbsent(name, n -> new ByteArrayOutputStream());
                    }
                };
            }
        };
        JavaFileObject text = new SimpleJavaFileObject(URI.create("memory:///" + BROKEN + ".java"), JavaFileObject.Kind.SOURCE) {
            @Override
            public CharSequence getCharContent(boolean ignore) {
                return broken;
            }
        };
        if (!compiler.getTask(new StringWriter(), files, null, null, null, List.of(text)).call()) {
            return null;
        }
        Map<String, byte[]> classes = new HashMap<>();
        written.forEach((name, bytes) -> classes.put(name, bytes.toByteArray()));
        return classes;
    }

    /** The tests as they are, and the broken class. */
    private static final class Loader extends ClassLoader {
        private final Map<String, byte[]> broken;

        private Loader(Map<String, byte[]> broken) {
            super(ClassLoader.getPlatformClassLoader());
            this.broken = broken;
        }

        @Override
        protected Class<?> findClass(String name) throws ClassNotFoundException {
            byte[] bytes = broken.get(name);
            if (bytes == null) {
                try (InputStream in = Breaks.class.getResourceAsStream("/" + name + ".class")) {
                    if (in == null) {
                        throw new ClassNotFoundException(name);
                    }
                    bytes = in.readAllBytes();
                } catch (IOException e) {
                    throw new ClassNotFoundException(name, e);
                }
            }
            return defineClass(name, bytes, 0, bytes.length);
        }
    }
}
