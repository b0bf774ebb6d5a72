import java.util.NoSuchElementException;
import java.util.Random;

/** Many runs of calls, always the same ones, each answer compared with that of Model. */
public final class RandomTest {
    private static final Check CHECK = new Check("RandomTest");
    private static final int RUNS = 2000;
    /** So often an object may be asked, and the most that one call here may take with its text and its ROW. */
    private static final int MOST_ASKED = 512;
    private static final int DEAREST_CALL = 40;
    private static final int COUNTS = 12;

    private final Random random;
    private final ChaffInTheWind x = new ChaffInTheWind();
    private final Model model = new Model();
    private final boolean wild;
    private int asked = 0;

    private RandomTest(int run) {
        random = new Random(run);
        wild = run % 5 == 0;
    }

    public static void main(String[] args) {
        int runs = args.length > 0 ? Integer.parseInt(args[0]) : RUNS;
        for (int run = 0; run < runs; run++) {
            RandomTest test = new RandomTest(run);
            test.prepare();
            for (int call = 0; test.hasTime(); call++) {
                test.call("run " + run + " call " + call);
            }
            test.compareAll("run " + run);
            CHECK.due("run " + run + " asks no more than is promised", true, test.asked <= MOST_ASKED);
        }
        CHECK.close();
    }

    /** For one more call, and for looking at all in the end. */
    private boolean hasTime() {
        return asked + COUNTS + model.sorts.size() * placesOfOneSort() + DEAREST_CALL <= MOST_ASKED;
    }

    private int placesOfOneSort() {
        return 6 + model.yards + 1;
    }

    private int from(int least, int most) {
        return least + random.nextInt(most - least + 1);
    }

    /** Mostly a number that is in order, at times one beside it, seldom any. */
    private int near(int least, int most) {
        int dice = random.nextInt(wild ? 8 : 60);
        if (dice == 0) {
            return from(0, 3) == 0 ? random.nextInt() : random.nextBoolean() ? least - 1 : most + 1;
        }
        if (dice == 1) {
            return random.nextBoolean() ? least : most;
        }
        return least > most ? least : from(least, most);
    }

    private int heap() {
        return random.nextInt(3) > 0 ? near(0, 1) : near(0, 5);
    }

    private int sort() {
        return near(0, model.sorts.size() - 1);
    }

    private int yard() {
        return near(0, model.yards - 1);
    }

    private void prepare() {
        if (wild && random.nextInt(3) == 0) {
            return;
        }
        for (int i = from(1, 3); i > 0; i--) {
            text(barnText());
            same("prepare barn", model.barn(), x.barn());
        }
        if (random.nextInt(4) > 0) {
            text(windText());
            same("prepare wind", model.wind(), x.wind());
        }
        for (int what = 0; what < 4; what++) {
            if (random.nextInt(4) > 0) {
                text(formula(what));
                same("prepare says", model.says(what), x.says(what));
            }
        }
        same("prepare HEIGHT", model.set(0, 5), x.set(0, 5));
    }

    // ---- texts

    private String barnText() {
        StringBuilder b = new StringBuilder();
        int lines = from(1, 5);
        for (int i = 0; i < lines; i++) {
            b.append(i > 0 ? ";" : "");
            if (random.nextInt(9) == 0) {
                b.append('y').append(from(2, 24));
            } else {
                int weight = random.nextBoolean() ? from(1, 5) : from(1, 99);
                int drag = random.nextInt(3) == 0 ? 0 : random.nextBoolean() ? from(0, 60) : from(0, 9);
                int many = random.nextInt(5) == 0 ? from(0, 999) : from(0, 30);
                b.append("chwsc".charAt(random.nextInt(5))).append(weight).append(',').append(from(1, 60)).append(',')
                        .append(drag).append('*').append(many);
            }
        }
        return b.toString();
    }

    private String windText() {
        StringBuilder b = new StringBuilder();
        int lines = from(1, 5);
        for (int i = 0; i < lines; i++) {
            b.append(i > 0 ? ";" : "").append(random.nextInt(3) == 0 ? "-" : "").append(from(0, 60)).append('*')
                    .append(random.nextInt(4) == 0 ? from(1, 99) : from(1, 6));
            if (random.nextBoolean()) {
                b.append('~').append(from(1, 20));
            }
        }
        return b.toString();
    }

    private String formula(int what) {
        if (what == 3 && random.nextBoolean()) {
            return new String[] {"w=k*5", "i=3", "(k=w)*(i=3)+(i=0)*(k=2)", "k=w-1", "z<k*5", "(i=3)*(k=4)", "d=0"}[random.nextInt(7)];
        }
        String s = formula(what, 0);
        return s.length() > 40 && random.nextInt(5) > 0 ? formula(what) : s;
    }

    private String formula(int what, int depth) {
        String sum = sum(what, depth);
        return random.nextInt(5) == 0 ? sum + "<>=".charAt(random.nextInt(3)) + sum(what, depth) : sum;
    }

    private String sum(int what, int depth) {
        StringBuilder b = new StringBuilder();
        for (int i = from(1, 3); i > 0; i--) {
            for (int j = random.nextInt(4) == 0 ? 2 : 1; j > 0; j--) {
                b.append(thing(what, depth)).append(j > 1 ? "*/".charAt(random.nextInt(2)) : ' ');
            }
            b.setCharAt(b.length() - 1, "+-".charAt(random.nextInt(2)));
        }
        b.setLength(b.length() - 1);
        return b.toString();
    }

    private String thing(int what, int depth) {
        String minus = random.nextInt(8) == 0 ? "-".repeat(from(1, 3)) : "";
        if (depth < 5 && random.nextInt(6) == 0) {
            return minus + "(" + formula(what, depth + 1) + ")";
        }
        String letters = what == 3 ? "wzdik" : "mchwsnkpmccp";
        return minus + (random.nextInt(3) == 0 ? "" + from(0, random.nextBoolean() ? 9 : 999)
                : "" + letters.charAt(random.nextInt(letters.length())));
    }

    /** Some signs of a text taken away, put between, or become others. */
    private String spoilt(String s) {
        StringBuilder b = new StringBuilder(s);
        for (int i = from(1, 2); i > 0; i--) {
            String signs = "chwsy,*;~-+()<>=/0123456789mnkpizd";
            char c = random.nextInt(20) == 0 ? (char) random.nextInt(256) : signs.charAt(random.nextInt(signs.length()));
            int at = random.nextInt(b.length() + 1);
            int how = random.nextInt(4);
            if (how == 0 || at == b.length()) {
                b.insert(at, c);
            } else if (how == 1) {
                b.deleteCharAt(at);
            } else if (how == 2) {
                b.setCharAt(at, c);
            } else {
                b.setLength(at);
            }
        }
        return b.toString();
    }

    private void text(String s) {
        String t = s;
        if (random.nextInt(3) == 0) {
            t = spoilt(t);
        }
        if (random.nextInt(6) == 0) {
            t = t + (t.indexOf(';') >= 0 ? ";" : "+") + t;
        }
        if (t.length() > 80) {
            t = t.substring(0, 80);
        }
        x.end(0);
        model.end(0);
        Check.text(x, t);
        asked += 3 + (t.length() + 3) / 4;
        model.text = t;
        same("text", t.length(), x.count(9));
    }

    // ---- calls

    /** Each comparison is told for one call. */
    private void same(String call, long want, long got) {
        asked++;
        CHECK.due(call, want, got);
    }

    private void compareRow(String call) {
        int numbers = x.count(8);
        same(call + " ROW", model.row.size(), numbers);
        for (int i = 0; i < model.row.size() && i < numbers; i++) {
            same(call + " row " + i, model.row.get(i), x.row(i));
        }
    }

    /** All SORTS, but where the last call told more of them than there is time for. */
    private void compareAll(String call) {
        for (int what = -1; what < COUNTS - 1; what++) {
            same(call + " count " + what, model.count(what), x.count(what));
        }
        for (int s = 0; s < model.sorts.size() && asked + placesOfOneSort() <= MOST_ASKED; s++) {
            for (int h = 0; h < 6; h++) {
                same(call + " has", model.has(h, s), x.has(h, s));
            }
            for (int y = 0; y <= model.yards; y++) {
                same(call + " lies", model.lies(y, s), x.lies(y, s));
            }
        }
    }

    private void call(String name) {
        int group = random.nextInt(7);
        String call = name + " group " + group;
        switch (group) {
            case 0:
                barnCall(call, random.nextInt(10));
                break;
            case 1:
                throwCall(call, random.nextInt(8));
                break;
            case 2:
                partCall(call, random.nextInt(9));
                break;
            case 3:
                sellCall(call, random.nextInt(7));
                break;
            case 4:
                passCall(call, random.nextInt(8));
                break;
            case 5:
                seedCall(call, random.nextInt(4));
                break;
            default:
                keptCall(call, random.nextInt(12));
                break;
        }
        compareRow(call);
    }

    private void barnCall(String call, int which) {
        int what = near(0, 4);
        int a = near(0, 3);
        switch (which) {
            case 0:
                text(barnText());
                same(call + " barn", model.barn(), x.barn());
                break;
            case 1:
                text(windText());
                same(call + " wind", model.wind(), x.wind());
                break;
            case 2:
                text(formula(a));
                same(call + " says " + a, model.says(a), x.says(a));
                break;
            case 3:
                int v = what == 0 ? near(1, random.nextBoolean() ? 9 : 400) : what == 1 ? near(-40, 40) : what == 2 ? yard()
                        : what == 3 ? near(1, 99) : near(0, random.nextBoolean() ? 3 : 50);
                same(call + " set", model.set(what, v), x.set(what, v));
                break;
            case 4:
                sortCall(call, sort(), a);
                break;
            case 5:
                int n = near(0, 10);
                int f = random.nextBoolean() ? from(0, 30) : random.nextInt(2000) - 500;
                int step = random.nextInt(5) == 0 ? random.nextInt() : from(-5, 20);
                int h = heap();
                same(call + " sheet", model.sheet(h, a, n, f, step), x.sheet(h, a, n, f, step));
                break;
            case 6:
                int signs = random.nextInt();
                same(call + " sign", model.sign(signs), x.sign(signs));
                break;
            case 7:
                int end = near(0, model.text.length());
                same(call + " end", model.end(end) ? 1 : 0, x.end(end) ? 1 : 0);
                break;
            case 8:
                int heap = heap();
                int sort = sort();
                same(call + " has", model.has(heap, sort), x.has(heap, sort));
                break;
            default:
                int yard = near(0, model.yards);
                int lying = sort();
                same(call + " lies", model.lies(yard, lying), x.lies(yard, lying));
                break;
        }
    }

    private void sortCall(String call, int s, int what) {
        Integer due = model.sort(s, what);
        try {
            int got = x.sort(s, what);
            same(call + " sort", due == null ? Integer.MIN_VALUE : due, got);
        } catch (NoSuchElementException e) {
            same(call + " sort throws", 1, due == null ? 1 : 0);
        }
    }

    private void throwCall(String call, int which) {
        int h = heap();
        int o = heap();
        switch (which) {
            case 0:
                int s = sort();
                int w = near(-60, 60);
                same(call + " lands", model.lands(s, w), x.lands(s, w));
                break;
            case 1:
            case 2:
                int n = random.nextInt(20) == 0 ? near(0, 500) : near(0, 3);
                same(call + " go", model.go(h, n), x.go(h, n));
                break;
            case 3:
                same(call + " blows", model.blows(), x.blows());
                break;
            case 4:
                int a = yard();
                int b = near(a < 0 || a >= model.yards ? 0 : a, model.yards - 1);
                same(call + " gather", model.gather(a, b, h), x.gather(a, b, h));
                break;
            case 5:
                same(call + " mix", model.mix(h, o), x.mix(h, o));
                break;
            case 6:
                int hole = near(1, 60);
                same(call + " sieve", model.sieve(h, hole, o), x.sieve(h, hole, o));
                break;
            default:
                int k = near(1, 9);
                same(call + " stroke", model.stroke(h, k, o), x.stroke(h, k, o));
                break;
        }
    }

    private void partCall(String call, int which) {
        int a = sort();
        int b = sort();
        int h = heap();
        int w = near(-60, 60);
        switch (which) {
            case 0:
                same(call + " parts", model.parts(a, b), x.parts(a, b));
                break;
            case 1:
                same(call + " never", model.never(), x.never());
                break;
            case 2:
                same(call + " best", model.best(h), x.best(h));
                break;
            case 3:
                same(call + " aim", model.aim(h, w), x.aim(h, w));
                break;
            case 4:
                int lost = near(0, random.nextBoolean() ? 9 : 300);
                same(call + " fan", model.fan(h, lost), x.fan(h, lost));
                break;
            case 5:
                same(call + " serves", model.serves(a, b), x.serves(a, b));
                break;
            case 6:
                int line = near(0, model.winds.size() - 1);
                int from = near(0, model.yards / 2);
                int to = near(from < 0 || from >= model.yards ? 0 : from, model.yards - 1);
                same(call + " odds", model.odds(a, line, from, to), x.odds(a, line, from, to));
                break;
            case 7:
                same(call + " kin", model.kin(a), x.kin(a));
                break;
            default:
                int yard = near(0, model.yards);
                same(call + " sends", model.sends(a, yard), x.sends(a, yard));
                break;
        }
    }

    private void sellCall(String call, int which) {
        int h = heap();
        int o = heap();
        int s = sort();
        switch (which) {
            case 0:
                priceCall(call, near(0, 2), h);
                break;
            case 1:
                same(call + " worth", model.worth(h), x.worth(h));
                break;
            case 2:
                int k = near(1, 4);
                same(call + " marks", model.marks(k), x.marks(k));
                break;
            case 3:
                int worth = near(0, random.nextBoolean() ? 500 : 99999);
                same(call + " may", model.may(h, s, worth), x.may(h, s, worth));
                break;
            case 4:
                int n = near(0, random.nextBoolean() ? 30 : 999);
                same(call + " bushel", model.bushel(h, n), x.bushel(h, n));
                break;
            case 5:
                same(call + " away", model.away(h), x.away(h));
                break;
            default:
                same(call + " shift", model.shift(h, o, s), x.shift(h, o, s));
                break;
        }
    }

    private void priceCall(String call, int price, int h) {
        Integer due = model.price(price, h);
        try {
            int got = x.price(price, h);
            same(call + " price", due == null ? Integer.MIN_VALUE : due, got);
        } catch (NoSuchElementException e) {
            same(call + " price throws", 1, due == null ? 1 : 0);
        }
    }

    private void passCall(String call, int which) {
        int h = heap();
        int clean = near(0, 100);
        int kept = random.nextBoolean() ? near(0, 100) : near(0, 5);
        switch (which) {
            case 0:
                int w = near(-60, 60);
                int a = yard();
                int b = near(a < 0 || a >= model.yards ? 0 : a, model.yards - 1);
                same(call + " blow", model.blow(w, a, b), x.blow(w, a, b));
                break;
            case 1:
                int hole = near(1, 60);
                boolean over = random.nextBoolean();
                same(call + " hole", model.hole(hole, over), x.hole(hole, over));
                break;
            case 2:
                int p = near(0, model.passes.size() - 1);
                same(call + " stays", model.stays(p), x.stays(p));
                break;
            case 3:
            case 4:
                same(call + " order", model.order(h, clean, kept), x.order(h, clean, kept));
                break;
            case 5:
                same(call + " needed", model.needed(h, clean, kept), x.needed(h, clean, kept));
                break;
            case 6:
                same(call + " strokes", model.strokes(h), x.strokes(h));
                break;
            default:
                int bits = near(1, (1 << model.sorts.size()) - 1);
                same(call + " find", model.find(bits), x.find(bits));
                break;
        }
    }

    private void seedCall(String call, int which) {
        int h = heap();
        switch (which) {
            case 0:
                int a = near(0, 999);
                int b = near(0, Math.max(0, Math.min(a, 999)));
                int n = near(1, 10);
                int c = near(0, 10);
                int cost = random.nextBoolean() ? near(0, 9) : near(0, 99);
                same(call + " await", model.await(n, c, a, b, cost), x.await(n, c, a, b, cost));
                break;
            case 1:
                same(call + " heavy", model.heavy(h), x.heavy(h));
                break;
            case 2:
                int g = near(1, 4);
                same(call + " sample", model.sample(h, g), x.sample(h, g));
                break;
            default:
                int sure = near(1, 100);
                same(call + " grains", model.grains(h, sure), x.grains(h, sure));
                break;
        }
    }

    private void keptCall(String call, int which) {
        int i = near(0, 2);
        switch (which) {
            case 0:
                int v = random.nextInt();
                same(call + " seed", model.seed(v), x.seed(v));
                break;
            case 1:
                same(call + " keep", model.keep(i) ? 1 : 0, x.keep(i) ? 1 : 0);
                break;
            case 2:
                same(call + " again", model.again(i) ? 1 : 0, x.again(i) ? 1 : 0);
                break;
            default:
                int what = near(0, 9);
                same(call + " count", model.count(what), x.count(what));
                Long due = model.row(i);
                same(call + " row ends", due == null ? 1 : 0, Check.isMissing(() -> x.row(i)) ? 1 : 0);
                break;
        }
    }
}
