import java.math.BigDecimal;
import java.math.BigInteger;
import java.util.ArrayList;
import java.util.Arrays;
import java.util.Collections;
import java.util.List;
import java.util.regex.Matcher;
import java.util.regex.Pattern;

/**
 * The document once more, told as plainly as can be and by other means than the program's
 * (patterns, lists, all cases one by one), for RandomTest to compare with.
 */
final class Model {
    private static final String W = "0?[1-9]|[1-9][0-9]";
    private static final Pattern SORT_LINE = Pattern.compile(
            "[chws](" + W + "),(0?[1-9]|[1-5][0-9]|60),([0-5]?[0-9]|60)\\*[0-9]{1,3}");
    private static final Pattern YARD_LINE = Pattern.compile("y(0?[2-9]|1[0-9]|2[0-4])");
    private static final Pattern BARN = Pattern.compile(lines("(" + SORT_LINE + "|" + YARD_LINE + ")"));
    private static final Pattern WIND = Pattern.compile(
            lines("(-?([0-5]?[0-9]|60)\\*(" + W + ")(~(0?[1-9]|1[0-9]|20))?)"));

    String text = "";
    List<Long> row = new ArrayList<>();
    List<int[]> sorts = new ArrayList<>();
    int yards = 12;
    int[] settings = {100, 0, 0, 20, 0};
    List<int[]> heaps = new ArrayList<>();
    List<int[]> lying = new ArrayList<>();
    int[] out = new int[10];
    List<int[]> winds = new ArrayList<>();
    int thrown = 0;
    int random = 1;
    String[] formulas = {"", "", "", ""};
    List<int[]> passes = new ArrayList<>();
    Object[][] kept = new Object[3][];

    Model() {
        for (int i = 0; i < 6; i++) {
            heaps.add(new int[10]);
        }
        clearYards();
    }

    private static String lines(String line) {
        return line + "(;" + line + ")*";
    }

    private void clearYards() {
        lying.clear();
        for (int i = 0; i < yards; i++) {
            lying.add(new int[10]);
        }
    }

    private int told(long... numbers) {
        row.clear();
        for (long n : numbers) {
            row.add(n);
        }
        return 0;
    }

    // ---- texts

    int sign(int v) {
        if (text.length() > 76) {
            return -1;
        }
        text += "" + (char) (v >>> 24) + (char) (v >> 16 & 255) + (char) (v >> 8 & 255) + (char) (v & 255);
        return text.length();
    }

    boolean end(int n) {
        boolean fits = n >= 0 && n <= text.length();
        text = fits ? text.substring(0, n) : text;
        return fits;
    }

    /** The place of the first sign that can't stand there, or the length if it may end there, or -1 less that if it must go on. */
    private static int firstWrong(Pattern pattern, String s) {
        for (int n = 1; n <= s.length(); n++) {
            Matcher m = pattern.matcher(s.substring(0, n));
            if (!m.matches() && !m.hitEnd()) {
                return n - 1;
            }
        }
        return s.isEmpty() || pattern.matcher(s).matches() ? -1 : s.length();
    }

    /** A number that is too small might have gone on, but it is told at its last digit. */
    private static int atLastDigit(String s, int wrong) {
        if (wrong < 1 || wrong < s.length() && Character.isDigit(s.charAt(wrong))) {
            return wrong;
        }
        Matcher m = Pattern.compile("(^|.*;)(y[01]|c0|h0|w0|s0|[chws][0-9]{1,2},0|-?[0-9]{1,2}\\*0|-?[0-9]{1,2}\\*[0-9]{1,2}~0)")
                .matcher(s.substring(0, wrong));
        return m.matches() ? wrong - 1 : wrong;
    }

    int barn() {
        String s = text;
        text = "";
        String read = s.substring(0, Math.min(76, s.length()));
        int wrong = atLastDigit(read, firstWrong(BARN, read));
        int at = 0;
        int room = 10 - sorts.size();
        for (String line : read.split(";", -1)) {
            if (!line.isEmpty() && "chws".indexOf(line.charAt(0)) >= 0 && --room < 0 && (wrong < 0 || at < wrong)) {
                wrong = at;
            }
            at += line.length() + 1;
        }
        if (wrong >= 0 || s.length() > 76) {
            return -1 - (wrong >= 0 ? wrong : 76);
        }
        if (s.isEmpty()) {
            return 0;
        }
        String[] lines = s.split(";");
        for (String line : lines) {
            if (line.startsWith("y")) {
                yards = Integer.parseInt(line.substring(1));
                settings[2] = Math.min(settings[2], yards - 1);
                clearYards();
            } else {
                String[] n = line.substring(1).split("[,*]");
                heaps.get(0)[sorts.size()] = Integer.parseInt(n[3]);
                sorts.add(new int[] {"chws".indexOf(line.charAt(0)), Integer.parseInt(n[0]), Integer.parseInt(n[1]), Integer.parseInt(n[2])});
            }
        }
        return lines.length;
    }

    int wind() {
        String s = text;
        text = "";
        String read = s.substring(0, Math.min(40, s.length()));
        int wrong = atLastDigit(read, firstWrong(WIND, read));
        if (wrong >= 0 || s.length() > 40) {
            return -1 - (wrong >= 0 ? wrong : 40);
        }
        winds.clear();
        thrown = 0;
        if (s.isEmpty()) {
            return 0;
        }
        for (String line : s.split(";")) {
            String[] n = (line + "~0").split("[*~]");
            winds.add(new int[] {Integer.parseInt(n[0]), Integer.parseInt(n[1]), Integer.parseInt(n[2])});
        }
        return winds.size();
    }

    int says(int what) {
        String s = text;
        text = "";
        if (what < 0 || what > 3) {
            return -100;
        }
        String read = s.substring(0, Math.min(40, s.length()));
        int wrong = formulaWrong(read, what == 3 ? "wzdik" : "mchwsnkp");
        if (wrong >= 0 || s.length() > 40) {
            return -1 - (wrong >= 0 ? wrong : 40);
        }
        formulas[what] = s;
        return 0;
    }

    private static int formulaWrong(String s, String letters) {
        List<Boolean> compared = new ArrayList<>(List.of(false));
        boolean wants = true;
        int digits = 0;
        for (int i = 0; i < s.length(); i++) {
            char c = s.charAt(i);
            int top = compared.size() - 1;
            if (wants) {
                digits = Character.isDigit(c) && c < 128 ? 1 : 0;
                if (c == '(' && top < 4) {
                    compared.add(false);
                } else if (digits == 1 || letters.indexOf(c) >= 0) {
                    wants = false;
                } else if (c != '-') {
                    return i;
                }
            } else if (c >= '0' && c <= '9' && digits > 0 && digits < 3) {
                digits++;
            } else if (c == ')' && top > 0) {
                compared.remove(top);
                digits = 0;
            } else if ("+-*/".indexOf(c) >= 0) {
                wants = true;
            } else if ("<>=".indexOf(c) >= 0 && !compared.get(top)) {
                compared.set(top, true);
                wants = true;
            } else {
                return i;
            }
        }
        return !s.isEmpty() && (wants || compared.size() > 1) ? s.length() : -1;
    }

    /** The operation that binds least is done last: of those the one farthest right that is not ahead of a thing. */
    private static int value(String s, String letters, int[] things) {
        for (String operations : new String[] {"<>=", "+-", "*/"}) {
            int depth = 0;
            for (int i = s.length() - 1; i > 0; i--) {
                char c = s.charAt(i);
                depth += c == ')' ? 1 : c == '(' ? -1 : 0;
                if (depth == 0 && operations.indexOf(c) >= 0 && "<>=+-*/(".indexOf(s.charAt(i - 1)) < 0) {
                    int a = value(s.substring(0, i), letters, things);
                    int b = value(s.substring(i + 1), letters, things);
                    return c == '<' ? (a < b ? 1 : 0) : c == '>' ? (a > b ? 1 : 0) : c == '=' ? (a == b ? 1 : 0)
                            : c == '+' ? a + b : c == '-' ? a - b : c == '*' ? a * b : b == 0 ? 0 : a / b;
                }
            }
        }
        if (s.charAt(0) == '-') {
            return -value(s.substring(1), letters, things);
        }
        if (s.charAt(0) == '(') {
            return value(s.substring(1, s.length() - 1), letters, things);
        }
        int thing = letters.indexOf(s.charAt(0));
        return thing >= 0 ? things[thing] : Integer.parseInt(s);
    }

    // ---- the barn

    int set(int what, int v) {
        int[] least = {1, -40, 0, 1, 0};
        int[] most = {400, 40, yards - 1, 99, 50};
        if (what < 0 || what > 4 || v < least[what] || v > most[what]) {
            return -1;
        }
        int before = settings[what];
        settings[what] = v;
        return before;
    }

    boolean isSort(int s) {
        return s >= 0 && s < sorts.size();
    }

    static boolean isHeap(int h) {
        return h >= 0 && h < 6;
    }

    static boolean isWind(int w) {
        return w >= -60 && w <= 60;
    }

    boolean areYards(int from, int to) {
        return 0 <= from && from <= to && to < yards;
    }

    Integer sort(int s, int what) {
        return isSort(s) && what >= 0 && what < 4 ? (Integer) sorts.get(s)[what] : null;
    }

    int has(int h, int s) {
        return isHeap(h) && isSort(s) ? heaps.get(h)[s] : -1;
    }

    int[] place(int yard) {
        return yard == yards ? out : lying.get(yard);
    }

    int lies(int yard, int s) {
        return yard >= 0 && yard <= yards && isSort(s) ? place(yard)[s] : -1;
    }

    int sheet(int h, int kind, int n, int f, int step) {
        if (!isHeap(h) || kind < 0 || kind > 3 || n > 10) {
            return -1;
        }
        if (kind != 3 && n < 0) {
            return -2;
        }
        int[] now = new int[10];
        for (int i = 0; kind != 3 && i < n && i < sorts.size(); i++) {
            long v = f + (long) i * step;
            BigInteger bits = BigInteger.valueOf(v);
            v = kind == 0 ? bits.byteValue() : kind == 1 ? bits.shortValue() : bits.intValue();
            now[i] = (int) Math.max(0, Math.min(999, v));
        }
        heaps.set(h, now);
        return kind == 3 ? -3 : sum(now);
    }

    static int sum(int[] grains) {
        return Arrays.stream(grains).sum();
    }

    // ---- throws

    /** TICKS, x, f, YARD. */
    int[] fall(int s, int wind, int height, int slant) {
        int[] sort = sorts.get(s);
        int w = 4 * (sort[1] + settings[4]);
        int d = Math.min(sort[3], w);
        int ticks = 0;
        int x = 0;
        int f = 0;
        int v = slant;
        int h = height;
        do {
            ticks++;
            f += 2;
            f -= d * f / w;
            v += d * (wind - v) / w;
            x += v;
            h -= f < 1 ? 1 : f;
        } while (h > 0);
        int yard = (int) Math.floor(settings[2] + x / 16.0);
        return new int[] {ticks, x, f, yard < 0 ? 0 : yard >= yards ? yards : yard};
    }

    int landing(int s, int wind) {
        return fall(s, wind, settings[0], settings[1])[3];
    }

    int lands(int s, int wind) {
        if (!isSort(s) || !isWind(wind)) {
            return -1;
        }
        int[] f = fall(s, wind, settings[0], settings[1]);
        told(f[0], f[1], f[2]);
        return f[3];
    }

    private int line() {
        List<Integer> all = new ArrayList<>();
        for (int i = 0; i < winds.size(); i++) {
            all.addAll(Collections.nCopies(winds.get(i)[1], i));
        }
        return all.isEmpty() ? -1 : all.get(thrown % all.size());
    }

    int go(int h, int n) {
        if (!isHeap(h) || n < 0 || n > 500) {
            return -1;
        }
        int[] heap = heaps.get(h);
        int done = 0;
        int gone = 0;
        for (; done < n && sum(heap) > 0; done++) {
            int line = line();
            int wind = 0;
            if (line >= 0) {
                int k = winds.get(line)[2];
                wind = winds.get(line)[0];
                if (k > 0) {
                    random = random * 1103515245 + 12345;
                    wind += (int) (((random & 0xffffffffL) / 65536) % (2 * k + 1)) - k;
                }
            }
            thrown++;
            wind = Math.max(-60, Math.min(60, wind));
            for (int i = 0; i < settings[3] && sum(heap) > 0; i++) {
                int most = Arrays.stream(heap).max().getAsInt();
                int s = 0;
                while (heap[s] != most) {
                    s++;
                }
                heap[s]--;
                int yard = landing(s, wind);
                place(yard)[s]++;
                gone += yard == yards ? 1 : 0;
            }
        }
        told(gone);
        return done;
    }

    int blows() {
        int line = line();
        if (line < 0) {
            told(-1, 0);
            return 0;
        }
        int before = thrown;
        int left = 0;
        int round = winds.stream().mapToInt(w -> w[1]).sum();
        int place = thrown % round;
        while (place < round && line() == line) {
            left++;
            place++;
            thrown++;
        }
        thrown = before;
        told(line, left);
        return winds.get(line)[0];
    }

    private int move(int s, int[] from, int[] to) {
        int n = from[s];
        from[s] = 0;
        to[s] += n;
        return n;
    }

    int gather(int from, int to, int h) {
        if (!areYards(from, to) || !isHeap(h)) {
            return -1;
        }
        int n = 0;
        for (int y = from; y <= to; y++) {
            for (int s = 0; s < 10; s++) {
                n += move(s, lying.get(y), heaps.get(h));
            }
        }
        return n;
    }

    private static boolean areTwo(int h, int o) {
        return isHeap(h) && isHeap(o) && h != o;
    }

    int mix(int h, int o) {
        int n = 0;
        for (int s = 0; s < 10 && areTwo(h, o); s++) {
            n += move(s, heaps.get(h), heaps.get(o));
        }
        return areTwo(h, o) ? n : -1;
    }

    int sieve(int h, int hole, int o) {
        if (!areTwo(h, o) || hole < 1 || hole > 60) {
            return -1;
        }
        int n = 0;
        for (int s = 0; s < sorts.size(); s++) {
            n += sorts.get(s)[2] < hole ? move(s, heaps.get(h), heaps.get(o)) : 0;
        }
        return n;
    }

    private boolean flings(int s, int k) {
        int[] t = sorts.get(s);
        return !formulas[3].isEmpty() && value(formulas[3], "wzdik", new int[] {t[1], t[2], t[3], t[0], k}) != 0;
    }

    int stroke(int h, int k, int o) {
        if (!areTwo(h, o) || k < 1 || k > 9) {
            return -1;
        }
        int n = 0;
        for (int s = 0; s < sorts.size(); s++) {
            n += flings(s, k) ? move(s, heaps.get(h), heaps.get(o)) : 0;
        }
        return n;
    }

    // ---- what parts what

    /** 0, -1, 1, -2, 2 .. */
    private static int[] windsBySize() {
        int[] all = new int[121];
        for (int i = 1; i <= 60; i++) {
            all[2 * i - 1] = -i;
            all[2 * i] = i;
        }
        return all;
    }

    int parts(int a, int b) {
        if (!isSort(a) || !isSort(b)) {
            return -1;
        }
        int n = 0;
        int by = 0;
        int far = 0;
        for (int w : windsBySize()) {
            int d = Math.abs(landing(a, w) - landing(b, w));
            n += d > 0 ? 1 : 0;
            by = d > far ? w : by;
            far = Math.max(d, far);
        }
        if (n == 0) {
            told();
        } else {
            told(by, far);
        }
        return n;
    }

    private String landings(int s) {
        StringBuilder b = new StringBuilder();
        for (int w : windsBySize()) {
            b.append(landing(s, w)).append(' ');
        }
        return b.toString();
    }

    int never() {
        told();
        int n = 0;
        for (int a = 0; a < sorts.size(); a++) {
            for (int b = 0; b < sorts.size(); b++) {
                if (sorts.get(a)[0] == 0 && sorts.get(b)[0] != 0 && landings(a).equals(landings(b)) && n++ == 0) {
                    told(a, b);
                }
            }
        }
        return n;
    }

    /** Clean corn, corn OUT, chaff in YARDS with corn. */
    private int[] thrown(int[] heap, int wind, int height, int slant) {
        int[][] kinds = new int[yards + 1][4];
        for (int s = 0; s < sorts.size(); s++) {
            kinds[fall(s, wind, height, slant)[3]][sorts.get(s)[0]] += heap[s];
        }
        int[] answer = {0, kinds[yards][0], 0};
        for (int y = 0; y < yards; y++) {
            int[] k = kinds[y];
            answer[0] += k[1] + k[2] + k[3] == 0 ? k[0] : 0;
            answer[2] += k[0] > 0 ? k[1] : 0;
        }
        return answer;
    }

    int best(int h) {
        if (!isHeap(h)) {
            return -1;
        }
        int chosen = 0;
        int most = -1;
        for (int w : windsBySize()) {
            int[] t = thrown(heaps.get(h), w, settings[0], settings[1]);
            if (t[0] > most) {
                most = t[0];
                chosen = w;
                told(t[0], t[1]);
            }
        }
        return chosen;
    }

    int aim(int h, int wind) {
        if (!isHeap(h) || !isWind(wind)) {
            return -1;
        }
        int most = -1;
        for (int height = 20; height <= 400; height += 20) {
            for (int slant = -40; slant <= 40; slant += 10) {
                int clean = thrown(heaps.get(h), wind, height, slant)[0];
                if (clean > most) {
                    most = clean;
                    told(height, slant);
                }
            }
        }
        return most;
    }

    int fan(int h, int lost) {
        if (!isHeap(h) || lost < 0) {
            return -1;
        }
        int answer = -2;
        for (int t = 0; t <= 30; t++) {
            int[] n = thrown(heaps.get(h), 2 * t, settings[0], settings[1]);
            if (n[1] <= lost) {
                answer = t;
                told(n[2]);
            }
        }
        return answer;
    }

    int serves(int a, int b) {
        if (!isSort(a) || !isSort(b)) {
            return -1;
        }
        int bits = 0;
        for (int i = 0; i < winds.size(); i++) {
            bits += landing(a, winds.get(i)[0]) != landing(b, winds.get(i)[0]) ? 1 << i : 0;
        }
        return bits;
    }

    private void fraction(BigInteger a, BigInteger b) {
        BigInteger g = a.gcd(b);
        row.add(a.signum() == 0 ? 0 : a.divide(g).longValueExact());
        row.add(a.signum() == 0 ? 1 : b.divide(g).longValueExact());
    }

    int odds(int s, int line, int from, int to) {
        if (!isSort(s) || line < 0 || line >= winds.size() || !areYards(from, to)) {
            return -1;
        }
        int k = winds.get(line)[2];
        int n = 0;
        for (int i = 0; i < 2 * k + 1; i++) {
            int y = landing(s, Math.max(-60, Math.min(60, winds.get(line)[0] + i - k)));
            n += y >= from && y <= to ? 1 : 0;
        }
        told();
        fraction(BigInteger.valueOf(n), BigInteger.valueOf(2 * k + 1));
        return 0;
    }

    int kin(int s) {
        int bits = 0;
        for (int o = 0; o < sorts.size() && isSort(s); o++) {
            bits += o != s && landings(o).equals(landings(s)) ? 1 << o : 0;
        }
        return isSort(s) ? bits : -1;
    }

    int sends(int s, int yard) {
        if (!isSort(s) || yard < 0 || yard > yards) {
            return -1;
        }
        List<Integer> by = new ArrayList<>();
        for (int w : windsBySize()) {
            if (landing(s, w) == yard) {
                by.add(w);
            }
        }
        if (by.isEmpty()) {
            return -99;
        }
        told(by.size());
        return by.get(0);
    }

    // ---- what it sells for

    private int[] figures(int[] heap) {
        int[] t = new int[8];
        for (int s = 0; s < sorts.size(); s++) {
            int[] sort = sorts.get(s);
            t[0] += sort[1] * heap[s];
            t[1 + sort[0]] += sort[1] * heap[s];
            t[5] += heap[s];
            t[6] += sort[0] == 0 && heap[s] > 0 ? 1 : 0;
        }
        t[7] = t[0] > 0 ? t[1] * 100 / t[0] : 0;
        return t;
    }

    private int priced(int p, int[] heap) {
        return Math.max(-99999, Math.min(99999, value(formulas[p], "mchwsnkp", figures(heap))));
    }

    Integer price(int p, int h) {
        return p < 0 || p > 2 || !isHeap(h) || formulas[p].isEmpty() ? null : (Integer) priced(p, heaps.get(h));
    }

    /** WORTH, and the PRICE by which. */
    private int[] worthBy(int[] heap) {
        int[] best = {0, -1};
        for (int p = 2; p >= 0 && sum(heap) > 0; p--) {
            int v = formulas[p].isEmpty() ? -1 : priced(p, heap);
            best = v >= best[0] ? new int[] {v, p} : best;
        }
        return best;
    }

    int worth(int h) {
        if (!isHeap(h)) {
            return -1;
        }
        int[] w = worthBy(heaps.get(h));
        told(w[1], sum(heaps.get(h)));
        return w[0];
    }

    int marks(int k) {
        if (k < 1 || k > 4) {
            return -1;
        }
        int[][] of = new int[yards][yards + 1];
        for (int a = 0; a < yards; a++) {
            int[] heap = new int[10];
            for (int b = a; b < yards; b++) {
                for (int s = 0; s < 10; s++) {
                    heap[s] += lying.get(b)[s];
                }
                of[a][b + 1] = worthBy(heap)[0];
            }
        }
        int most = -1;
        List<Integer> best = null;
        for (int heaps = 1; heaps <= k && heaps <= yards; heaps++) {
            for (List<Integer> marks : choices(1, heaps - 1)) {
                int sum = 0;
                int from = 0;
                for (int m : marks) {
                    sum += of[from][m];
                    from = m;
                }
                sum += of[from][yards];
                if (sum > most) {
                    most = sum;
                    best = marks;
                }
            }
        }
        told(best.size() + 1);
        for (int m : best) {
            row.add((long) m);
        }
        return most;
    }

    /** All rows of n marks from a YARD on, the least first. */
    private List<List<Integer>> choices(int from, int n) {
        List<List<Integer>> all = new ArrayList<>();
        if (n == 0) {
            all.add(new ArrayList<>());
        }
        for (int m = from; m < yards && n > 0; m++) {
            for (List<Integer> rest : choices(m + 1, n - 1)) {
                rest.add(0, m);
                all.add(rest);
            }
        }
        return all;
    }

    private int[] with(int[] heap, int s, int n) {
        int[] other = heap.clone();
        other[s] = n;
        return other;
    }

    int may(int h, int s, int worth) {
        if (!isHeap(h) || !isSort(s)) {
            return -1;
        }
        List<Integer> all = new ArrayList<>();
        for (int n = 0; n < 1000; n++) {
            if (worthBy(with(heaps.get(h), s, n))[0] >= worth) {
                all.add(n);
            }
        }
        if (all.isEmpty()) {
            told();
        } else {
            told(all.get(0), all.get(all.size() - 1));
        }
        return all.size();
    }

    /** WEIGHT and SORT of each grain, the heaviest first, of equal ones the first SORT. */
    private List<int[]> byWeight(int h) {
        List<int[]> all = new ArrayList<>();
        for (int s = 0; s < sorts.size(); s++) {
            all.addAll(Collections.nCopies(heaps.get(h)[s], new int[] {sorts.get(s)[1], s}));
        }
        all.sort((a, b) -> a[0] != b[0] ? b[0] - a[0] : a[1] - b[1]);
        return all;
    }

    int bushel(int h, int n) {
        if (!isHeap(h) || n < 0 || n > 999) {
            return -1;
        }
        List<int[]> all = byWeight(h);
        if (all.size() < n) {
            return -2;
        }
        long least = 0;
        long most = 0;
        for (int i = 0; i < n; i++) {
            most += all.get(i)[0];
            least += all.get(all.size() - 1 - i)[0];
        }
        return told(least, most);
    }

    int away(int h) {
        if (!isHeap(h)) {
            return -1;
        }
        int answer = -2;
        int most = -1;
        for (int s = 0; s < sorts.size(); s++) {
            int w = worthBy(with(heaps.get(h), s, 0))[0];
            if (heaps.get(h)[s] > 0 && w > most) {
                most = w;
                answer = s;
                told(w - worthBy(heaps.get(h))[0]);
            }
        }
        return answer;
    }

    int shift(int h, int o, int s) {
        if (!areTwo(h, o) || !isSort(s)) {
            return -1;
        }
        int[] a = heaps.get(h);
        int[] b = heaps.get(o);
        int answer = 0;
        int most = -1;
        for (int n = 0; n <= a[s] && n <= 999; n++) {
            int w = worthBy(with(a, s, a[s] - n))[0] + worthBy(with(b, s, b[s] + n))[0];
            if (w > most) {
                most = w;
                answer = n;
            }
        }
        told(most);
        return answer;
    }

    // ---- passes

    int blow(int wind, int from, int to) {
        if (!isWind(wind) || !areYards(from, to) || passes.size() == 7) {
            return -1;
        }
        passes.add(new int[] {wind, from, to});
        return passes.size() - 1;
    }

    int hole(int hole, boolean over) {
        if (hole < 1 || hole > 60 || passes.size() == 7) {
            return -1;
        }
        passes.add(new int[] {hole, over ? 1 : 0});
        return passes.size() - 1;
    }

    int stays(int p) {
        if (p < 0 || p >= passes.size()) {
            return -1;
        }
        int[] pass = passes.get(p);
        int bits = 0;
        for (int s = 0; s < sorts.size(); s++) {
            boolean there;
            if (pass.length == 2) {
                there = pass[1] == 1 ? sorts.get(s)[2] >= pass[0] : sorts.get(s)[2] < pass[0];
            } else {
                int y = landing(s, pass[0]);
                there = y < yards && y >= pass[1] && y <= pass[2];
            }
            bits += there ? 1 << s : 0;
        }
        return bits;
    }

    private int left(int bits) {
        int left = 1023;
        for (int p = 0; p < passes.size(); p++) {
            left &= (bits >> p) % 2 == 1 ? stays(p) : 1023;
        }
        return left;
    }

    private BigDecimal weight(int h, int left, boolean corn) {
        long sum = 0;
        for (int s = 0; s < sorts.size(); s++) {
            sum += (left >> s) % 2 == 1 && (!corn || sorts.get(s)[0] == 0) ? (long) heaps.get(h)[s] * sorts.get(s)[1] : 0;
        }
        return BigDecimal.valueOf(sum);
    }

    private boolean does(int h, int left, int clean, int kept) {
        BigDecimal corn = weight(h, left, true);
        return corn.compareTo(weight(h, left, false).multiply(BigDecimal.valueOf(clean, 2))) >= 0
                && corn.compareTo(weight(h, 1023, true).multiply(BigDecimal.valueOf(kept, 2))) >= 0;
    }

    private int ordered(int h, int clean, int kept) {
        if (!isHeap(h) || clean < 0 || clean > 100 || kept < 0 || kept > 100 || weight(h, 1023, true).signum() == 0) {
            return -1;
        }
        long best = Long.MAX_VALUE;
        for (int bits = 0; bits < 1 << passes.size(); bits++) {
            int left = left(bits);
            if (does(h, left, clean, kept)) {
                long grains = 0;
                for (int s = 0; s < 10; s++) {
                    grains += (left >> s) % 2 * heaps.get(h)[s];
                }
                best = Math.min(best, ((Integer.bitCount(bits) * (1L << 40)) + (1L << 39) - grains) * 1000 + bits);
            }
        }
        return best == Long.MAX_VALUE ? -2 : (int) (best % 1000);
    }

    int order(int h, int clean, int kept) {
        int bits = ordered(h, clean, kept);
        if (bits < 0) {
            return bits;
        }
        told(bits);
        return Integer.bitCount(bits);
    }

    int needed(int h, int clean, int kept) {
        int bits = ordered(h, clean, kept);
        int needed = 0;
        for (int p = 0; p < 7 && bits >= 0; p++) {
            needed += (bits >> p) % 2 == 1 && !does(h, left(bits - (1 << p)), clean, kept) ? 1 << p : 0;
        }
        return bits < 0 ? bits : needed;
    }

    /** What the STROKES but one (0: all) leave of stones, and by which corn goes. */
    private int[] beaten(int h, int but) {
        int[] heap = heaps.get(h).clone();
        int by = 0;
        for (int k = 1; k <= 9; k++) {
            for (int s = 0; s < sorts.size() && k != but; s++) {
                if (heap[s] > 0 && flings(s, k)) {
                    heap[s] = 0;
                    by |= sorts.get(s)[0] == 0 ? 1 << k - 1 : 0;
                }
            }
        }
        int stones = 0;
        for (int s = 0; s < sorts.size(); s++) {
            stones += sorts.get(s)[0] == 3 ? heap[s] : 0;
        }
        return new int[] {stones, by};
    }

    int strokes(int h) {
        if (!isHeap(h)) {
            return -1;
        }
        int[] all = beaten(h, 0);
        int bits = 0;
        for (int k = 1; k <= 9; k++) {
            bits += beaten(h, k)[0] > all[0] ? 1 << k - 1 : 0;
        }
        told(all[1], all[0]);
        return bits;
    }

    int find(int bits) {
        if (bits <= 0 || bits >= 1 << sorts.size()) {
            return -1;
        }
        int answer = -2;
        int fewest = 99;
        for (int p = 0; p < passes.size(); p++) {
            int others = 0;
            for (int s = 0; s < sorts.size(); s++) {
                boolean goes = (stays(p) >> s) % 2 == 0;
                others += goes != ((bits >> s) % 2 == 1) ? 1 : 0;
            }
            if (others < fewest) {
                fewest = others;
                answer = p;
                told(others);
            }
        }
        return answer;
    }

    // ---- gusts, seed, samples

    int await(int n, int c, int a, int b, int cost) {
        if (n < 1 || n > 10 || c < 0 || c > 10 || a < 0 || a > 999 || b < 0 || b > a || cost < 0 || cost > 99) {
            return -1;
        }
        BigDecimal good = BigDecimal.valueOf(c, 1);
        BigDecimal bad = BigDecimal.valueOf(10 - c, 1);
        BigDecimal hope = null;
        int waits = 0;
        for (int left = 1; left <= n; left++) {
            BigDecimal whenGood = BigDecimal.valueOf(a);
            BigDecimal whenBad = BigDecimal.valueOf(b);
            if (left > 1) {
                BigDecimal next = hope.subtract(BigDecimal.valueOf(cost));
                waits += next.compareTo(whenBad) > 0 ? 1 : 0;
                whenGood = whenGood.max(next);
                whenBad = whenBad.max(next);
            }
            hope = good.multiply(whenGood).add(bad.multiply(whenBad));
        }
        return told(hope.scaleByPowerOfTen(n).longValueExact(), waits);
    }

    int heavy(int h) {
        if (!isHeap(h)) {
            return -1;
        }
        List<int[]> all = byWeight(h);
        int n = (int) Math.ceil(all.size() / 10.0);
        long sum = 0;
        long bits = 0;
        for (int[] grain : all.subList(0, n)) {
            sum += grain[0];
            bits |= 1L << grain[1];
        }
        told();
        fraction(BigInteger.valueOf(sum), BigInteger.valueOf(n));
        row.add(bits);
        return n;
    }

    private BigInteger ways(long n, int g) {
        BigInteger ways = BigInteger.ONE;
        for (int i = 0; i < g; i++) {
            ways = ways.multiply(BigInteger.valueOf(n - i)).divide(BigInteger.valueOf(i + 1));
        }
        return n < g ? BigInteger.ZERO : ways;
    }

    private int corn(int h) {
        int n = 0;
        for (int s = 0; s < sorts.size(); s++) {
            n += sorts.get(s)[0] == 0 ? heaps.get(h)[s] : 0;
        }
        return n;
    }

    int sample(int h, int g) {
        if (!isHeap(h) || g < 1 || g > 4) {
            return -1;
        }
        int n = sum(heaps.get(h));
        if (n > 2000 || n < g) {
            return n > 2000 ? -3 : -2;
        }
        told();
        fraction(ways(corn(h), g), ways(n, g));
        return 0;
    }

    int grains(int h, int sure) {
        if (!isHeap(h) || sure < 1 || sure > 100) {
            return -1;
        }
        int n = sum(heaps.get(h));
        for (int g = 1; g <= 4 && g <= n && n <= 2000; g++) {
            BigInteger all = ways(n, g);
            BigInteger some = all.subtract(ways(corn(h), g));
            if (some.multiply(BigInteger.valueOf(100)).compareTo(all.multiply(BigInteger.valueOf(sure))) >= 0) {
                return g;
            }
        }
        return n > 2000 ? -3 : -2;
    }

    // ---- kept

    int seed(int v) {
        int before = random;
        random = v;
        return before;
    }

    private static List<int[]> copies(List<int[]> rows) {
        List<int[]> all = new ArrayList<>();
        for (int[] r : rows) {
            all.add(r.clone());
        }
        return all;
    }

    boolean keep(int i) {
        if (i < 0 || i > 2) {
            return false;
        }
        kept[i] = new Object[] {copies(heaps), copies(lying), out.clone(), thrown, random};
        return true;
    }

    @SuppressWarnings("unchecked")
    boolean again(int i) {
        if (i < 0 || i > 2 || kept[i] == null || ((List<int[]>) kept[i][1]).size() != yards) {
            return false;
        }
        heaps = copies((List<int[]>) kept[i][0]);
        lying = copies((List<int[]>) kept[i][1]);
        out = ((int[]) kept[i][2]).clone();
        thrown = (Integer) kept[i][3];
        random = (Integer) kept[i][4];
        return true;
    }

    int count(int what) {
        int told = 0;
        for (int i = 0; i < 4; i++) {
            told += formulas[i].isEmpty() ? 0 : 1 << i;
        }
        int[] counts = {sorts.size(), yards, thrown, told, passes.size(), heaps.stream().mapToInt(Model::sum).sum(),
            lying.stream().mapToInt(Model::sum).sum(), sum(out), row.size(), text.length()};
        return what >= 0 && what < 10 ? counts[what] : -1;
    }

    Long row(int i) {
        return i >= 0 && i < row.size() ? row.get(i) : null;
    }
}
