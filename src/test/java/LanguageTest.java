import java.lang.reflect.Constructor;
import java.lang.reflect.Field;
import java.lang.reflect.Method;
import java.lang.reflect.Modifier;
import java.nio.charset.StandardCharsets;
import java.nio.file.Files;
import java.nio.file.Path;
import java.util.ArrayList;
import java.util.Arrays;
import java.util.List;
import java.util.Set;
import java.util.TreeSet;
import java.util.regex.Matcher;
import java.util.regex.Pattern;

/** The face of the document, and what of LANGUAGE.md can be seen from outside. Run in the project's directory. */
public final class LanguageTest {
    private static final Check CHECK = new Check("LanguageTest");
    private static final Path SOURCE = Path.of("src/main/java/ChaffInTheWind.java");
    private static final String FACE = "int sign(int) boolean end(int) int barn() int wind() int says(int) int set(int,int) int sort(int,int) "
            + "int has(int,int) int lies(int,int) int sheet(int,int,int,int,int) int lands(int,int) int go(int,int) int blows() "
            + "int gather(int,int,int) int mix(int,int) int sieve(int,int,int) int stroke(int,int,int) int parts(int,int) int never() "
            + "int best(int) int aim(int,int) int fan(int,int) int serves(int,int) int odds(int,int,int,int) int kin(int) int sends(int,int) "
            + "int price(int,int) int worth(int) int marks(int) int may(int,int,int) int bushel(int,int) int away(int) int shift(int,int,int) "
            + "int blow(int,int,int) int hole(int,boolean) int stays(int) int order(int,int,int) int needed(int,int,int) int strokes(int) "
            + "int find(int) int await(int,int,int,int,int) int heavy(int) int sample(int,int) int grains(int,int) int seed(int) "
            + "boolean keep(int) boolean again(int) int count(int) long row(int)";

    public static void main(String[] args) throws Exception {
        face();
        members();
        words();
        lengths();
        CHECK.close();
    }

    private static void face() {
        Set<String> due = new TreeSet<>(Arrays.asList(FACE.split(" (?=int |boolean |long )")));
        Set<String> got = new TreeSet<>();
        Set<String> throwing = new TreeSet<>();
        for (Method m : ChaffInTheWind.class.getDeclaredMethods()) {
            if (!Modifier.isPrivate(m.getModifiers())) {
                StringBuilder b = new StringBuilder(m.getReturnType().getName() + " " + m.getName() + "(");
                for (Class<?> p : m.getParameterTypes()) {
                    b.append(b.charAt(b.length() - 1) == '(' ? "" : ",").append(p.getName());
                }
                got.add(b.append(")").toString());
                CHECK.due("public and no more " + m, Modifier.PUBLIC, m.getModifiers());
                if (m.getExceptionTypes().length > 0) {
                    throwing.add(m.getName() + " " + Arrays.toString(m.getExceptionTypes()));
                }
            }
        }
        same("methods", due, got);
        String none = " [class java.util.NoSuchElementException]";
        same("throws", new TreeSet<>(List.of("price" + none, "row" + none, "sort" + none)), throwing);
        int face = ChaffInTheWind.class.getModifiers();
        CHECK.due("public final class", Modifier.PUBLIC | Modifier.FINAL, face);
        Constructor<?>[] all = ChaffInTheWind.class.getDeclaredConstructors();
        CHECK.due("constructors", 1, all.length);
        CHECK.due("constructor", Modifier.PUBLIC, all[0].getModifiers());
        CHECK.due("constructor takes nothing", 0, all[0].getParameterCount());
    }

    private static void members() {
        Set<String> names = new TreeSet<>();
        for (Method m : ChaffInTheWind.class.getDeclaredMethods()) {
            if (Modifier.isPublic(m.getModifiers())) {
                names.add(m.getName());
            }
        }
        List<Class<?>> classes = new ArrayList<>(List.of(ChaffInTheWind.class.getDeclaredClasses()));
        CHECK.due("classes inside, some twelve", true, classes.size() <= 12);
        for (Class<?> c : classes) {
            CHECK.due("static class " + c, true, Modifier.isStatic(c.getModifiers()) && !Modifier.isPublic(c.getModifiers()));
        }
        classes.add(ChaffInTheWind.class);
        for (Class<?> c : classes) {
            int fields = 0;
            for (Field f : c.getDeclaredFields()) {
                boolean isFace = c == ChaffInTheWind.class && f.getName().equals("NONE");
                int seen = f.getModifiers() & (Modifier.PUBLIC | Modifier.PRIVATE | Modifier.PROTECTED);
                boolean isHidden = c == ChaffInTheWind.class ? seen == Modifier.PRIVATE : seen == 0 || seen == Modifier.PRIVATE;
                CHECK.due("field " + f, true, isFace ? seen == Modifier.PUBLIC : isHidden);
                CHECK.due("static is final " + f, true, !Modifier.isStatic(f.getModifiers()) || Modifier.isFinal(f.getModifiers()));
                fields += Modifier.isStatic(f.getModifiers()) ? 0 : 1;
            }
            CHECK.due("some twenty fields in " + c, true, fields <= 20);
            for (Method m : c.getDeclaredMethods()) {
                boolean isHidden = Modifier.isPrivate(m.getModifiers());
                CHECK.due("no name of the face " + m, false, isHidden && names.contains(m.getName()));
                CHECK.due("parameters of " + m, true, m.getParameterCount() <= 7);
            }
        }
    }

    private static void words() throws Exception {
        byte[] bytes = Files.readAllBytes(SOURCE);
        for (byte b : bytes) {
            if (b < 1) {
                CHECK.due("signs 1 to 127 in the source", true, false);
            }
        }
        String code = code(new String(bytes, StandardCharsets.ISO_8859_1));
        String own = "IllegalStateException|IllegalArgumentException|IndexOutOfBoundsException|ArithmeticException"
                + "|UnsupportedOperationException|NoSuchElementException|RuntimeException";
        String[] forbidden = {"[(=]\\s*\\w+\\s*->|\\)\\s*->", "::", "\\bfinally\\b", "\\bsynchronized\\b", "\\bassert\\b", "\\bpackage\\b",
            "\\bThread\\b", "\\bSystem\\.(?!arraycopy)", "Exact\\b", "\\b(boolean equals|int hashCode|String toString)\\(",
            "\"\\s+\\+|\\+\\s+\"", "\\bString\\.", "\\bstatic\\s*\\{", "\\bObject\\b", "\\bthrow new (?!(" + own + ")\\()",
            "\\bthrow (?!new )", "\\bcatch\\s*\\((?!(" + own + ")[ |])", "\\bextends \\w*Exception\\b"};
        for (String f : forbidden) {
            Matcher m = Pattern.compile(f).matcher(code);
            CHECK.due("no " + f, false, m.find());
        }
        Set<String> imports = new TreeSet<>();
        Matcher m = Pattern.compile("import ([^;]*);").matcher(code);
        while (m.find()) {
            imports.add(m.group(1));
        }
        imports.removeAll(List.of("java.util.Arrays", "java.util.ArrayList", "java.util.List", "java.util.Iterator",
                "java.util.NoSuchElementException"));
        CHECK.due("no imports but " + imports, 0, imports.size());
    }

    private static String code(String source) {
        return source.replaceAll("(?s)/\\*.*?\\*/", "").replaceAll("//[^\n]*", "");
    }

    private static void lengths() throws Exception {
        int from = -1;
        List<String> lines = Files.readAllLines(SOURCE);
        for (int i = 0; i < lines.size(); i++) {
            String line = lines.get(i);
            boolean starts = line.matches(" {4,8}(public|private).*\\).*\\{") && !line.contains(" class ");
            from = starts ? i : from;
            if (from >= 0 && (line.equals("    }") || line.equals("        }"))) {
                CHECK.due("short: " + lines.get(from), true, i - from < 60);
                from = -1;
            }
        }
    }

    private static void same(String what, Set<String> due, Set<String> got) {
        Set<String> lacks = new TreeSet<>(due);
        lacks.removeAll(got);
        Set<String> more = new TreeSet<>(got);
        more.removeAll(due);
        CHECK.due(what + " lacks " + lacks, 0, lacks.size());
        CHECK.due(what + " has besides " + more, 0, more.size());
    }
}
