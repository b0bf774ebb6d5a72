import java.util.Arrays;
import java.util.NoSuchElementException;

/** Chaff in the wind: what is told here of barns, throws, heaps and passes stands in DOC.md. */
public final class ChaffInTheWind {
    public static final int NONE = -1;

    private static final int HEAPS = 6;
    private static final int SORTS = 10;
    private static final int MOST_YARDS = 24;
    private static final int MOST_PASSES = 7;
    private static final int KEPT = 3;
    private static final int MOST_GRAINS = 999;
    private static final int MOST_THROWS = 500;
    private static final int MOST_TURNS = 30;
    private static final int MOST_MARKED = 4;
    private static final int MOST_MINUTES = 10;
    private static final int MOST_SAMPLED = 2000;
    private static final int MOST_SAMPLE = 4;
    private static final int STROKES = 9;
    private static final int HOLES = 60;
    private static final int GALE = 60;
    private static final int WINDS = 2 * GALE + 1;
    private static final int BARN_SIGNS = 76;
    private static final int LINE_SIGNS = 40;

    private static final int CORN = 0;
    private static final int CHAFF = 1;
    private static final int STONE = 3;

    private static final int HEIGHT = 0;
    private static final int SLANT = 1;
    private static final int STAND = 2;
    private static final int SHOVEL = 3;
    private static final int WET = 4;
    private static final int SETTINGS = 5;

    private static final int AIM_HEIGHTS = 20;
    private static final int AIM_HEIGHT_STEP = 20;
    private static final int AIM_SLANT = 40;
    private static final int AIM_SLANT_STEP = 10;

    private static final int NOT_ENOUGH = -2;
    private static final int TOO_MANY = -3;
    private static final int MISSING = -3;
    private static final int NO_WIND = -99;
    private static final int NO_SUCH_TEXT = -100;

    private final Signs signs = new Signs();
    private final Row told = new Row();
    private final Barn barn = new Barn();
    private final Store store = new Store();
    private final Store[] kept = {new Store(), new Store(), new Store()};
    private Gusts gusts = new Gusts();
    private Gusts gustsToBe = new Gusts();
    private final Market market = new Market();
    private final Pass[] passes = new Pass[MOST_PASSES];
    private int passCount = 0;
    /** Where each SORT lands in the WIND, or from the HEIGHT, that is looked at. */
    private final int[] landed = new int[SORTS];
    private final int[][] landedFrom = new int[AIM_HEIGHTS][SORTS];
    /** Heaps that are only thought of. */
    private final int[] oneHeap = new int[SORTS];
    private final int[] otherHeap = new int[SORTS];
    /** WORTH of YARDS a .. b, and the most that the YARDS a .. bring in j heaps. */
    private final int[][] worthOfYards = new int[MOST_YARDS][MOST_YARDS];
    private final int[][] worthFrom = new int[MOST_MARKED + 1][MOST_YARDS + 1];
    /** SORTS (bits) that each PASS lets stay, and those of the grains picked last. */
    private final int[] staying = new int[MOST_PASSES];
    private int picked = 0;

    public ChaffInTheWind() {
    }

    // ---- the barn

    public int sign(int v) {
        return signs.append(v);
    }

    public boolean end(int n) {
        return signs.shorten(n);
    }

    public int barn() {
        signs.open(BARN_SIGNS);
        int lines = barn.read(signs);
        boolean fits = lines != NONE && !signs.hasMore();
        signs.clear();
        if (!fits) {
            return signs.fault();
        }
        if (barn.tellsYards()) {
            store.clearYards();
        }
        for (int s = barn.sorts; s < barn.sortsToBe && s < SORTS; s++) {
            store.heaps[0][s] = barn.many[s];
        }
        barn.settle();
        return lines;
    }

    public int wind() {
        signs.open(LINE_SIGNS);
        int lines = gustsToBe.read(signs);
        boolean fits = lines != NONE && !signs.hasMore();
        signs.clear();
        if (!fits) {
            return signs.fault();
        }
        Gusts before = gusts;
        gusts = gustsToBe;
        gustsToBe = before;
        store.thrown = 0;
        return lines;
    }

    public int says(int what) {
        if (what < 0 || what > Market.LAW) {
            signs.clear();
            return NO_SUCH_TEXT;
        }
        signs.open(LINE_SIGNS);
        boolean fits = market.read(signs, what) && !signs.hasMore();
        signs.clear();
        if (!fits) {
            return signs.fault();
        }
        market.settle(what);
        return 0;
    }

    public int set(int what, int v) {
        if (what < 0 || what >= SETTINGS || v < barn.leastOf(what) || v > barn.mostOf(what)) {
            return NONE;
        }
        return barn.change(what, v);
    }

    public int sort(int sort, int what) throws NoSuchElementException {
        if (!isSort(sort) || what < 0 || what > 3) {
            throw new NoSuchElementException();
        }
        switch (what) {
            case 0:
                return barn.kind[sort];
            case 1:
                return barn.weight[sort];
            case 2:
                return barn.size[sort];
            default:
                return barn.drag[sort];
        }
    }

    public int has(int heap, int sort) {
        return isHeap(heap) && isSort(sort) ? store.heaps[heap][sort] : NONE;
    }

    public int lies(int yard, int sort) {
        return isYardOrOut(yard) && isSort(sort) ? placeOf(yard)[sort] : NONE;
    }

    public int sheet(int heap, int kind, int n, int f, int step) {
        if (!isHeap(heap) || kind < 0 || kind > 3 || n > SORTS) {
            return NONE;
        }
        if (kind < 3 && n < 0) {
            return NOT_ENOUGH;
        }
        int[] grains = store.heaps[heap];
        Arrays.fill(grains, 0);
        if (kind == 3) {
            return MISSING;
        }
        for (int s = 0; s < n && s < barn.sorts; s++) {
            grains[s] = entry(kind, f + s * step);
        }
        return sumOf(grains);
    }

    private int entry(int kind, int v) {
        int n = kind == 0 ? (byte) v : kind == 1 ? (short) v : v;
        return put(n, 0, MOST_GRAINS);
    }

    // ---- throws

    public int lands(int sort, int wind) {
        if (!isSort(sort) || !isWind(wind)) {
            return NONE;
        }
        int yard = barn.land(sort, wind);
        told.only(barn.flight.ticks);
        told.add(barn.flight.x);
        told.add(barn.flight.speed);
        return yard;
    }

    public int go(int heap, int n) {
        if (!isHeap(heap) || n < 0 || n > MOST_THROWS) {
            return NONE;
        }
        int[] grains = store.heaps[heap];
        int done = 0;
        int gone = 0;
        while (done < n && mostOf(grains) != NONE) {
            gone += throwShovel(grains);
            done++;
        }
        told.only(gone);
        return done;
    }

    public int blows() {
        int line = gusts.lineAt(store.thrown);
        told.only(line);
        told.add(gusts.leftAt(store.thrown));
        return gusts.windOf(line);
    }

    public int gather(int from, int to, int heap) {
        if (!areYards(from, to) || !isHeap(heap)) {
            return NONE;
        }
        int came = 0;
        for (int y = from; y <= to; y++) {
            came += moveAll(store.yards[y], store.heaps[heap]);
        }
        return came;
    }

    public int mix(int heap, int other) {
        if (!areTwoHeaps(heap, other)) {
            return NONE;
        }
        return moveAll(store.heaps[heap], store.heaps[other]);
    }

    public int sieve(int heap, int hole, int through) {
        if (!areTwoHeaps(heap, through) || !isHole(hole)) {
            return NONE;
        }
        int came = 0;
        for (int s = 0; s < barn.sorts; s++) {
            if (barn.size[s] < hole) {
                came += move(s, store.heaps[heap], store.heaps[through]);
            }
        }
        return came;
    }

    public int stroke(int heap, int stroke, int out) {
        if (!areTwoHeaps(heap, out) || stroke < 1 || stroke > STROKES) {
            return NONE;
        }
        int came = 0;
        for (int s = 0; s < barn.sorts; s++) {
            if (market.flings(barn, s, stroke)) {
                came += move(s, store.heaps[heap], store.heaps[out]);
            }
        }
        return came;
    }

    /** One THROW: the grains that go OUT in it. */
    private int throwShovel(int[] grains) {
        int wind = windOfThrow();
        int gone = 0;
        for (int i = 0; i < barn.setting[SHOVEL]; i++) {
            int s = mostOf(grains);
            if (s == NONE) {
                return gone;
            }
            int yard = barn.landing(s, wind);
            grains[s]--;
            placeOf(yard)[s]++;
            if (barn.isOut(yard)) {
                gone++;
            }
        }
        return gone;
    }

    private int windOfThrow() {
        int line = gusts.lineAt(store.thrown);
        store.thrown++;
        int spread = gusts.spreadOf(line);
        int more = spread == 0 ? 0 : store.draw(2 * spread + 1) - spread;
        return put(gusts.windOf(line) + more, -GALE, GALE);
    }

    /** The SORT of which there is the most, of equal ones the first. */
    private int mostOf(int[] grains) {
        int chosen = NONE;
        int most = 0;
        for (int s = 0; s < barn.sorts; s++) {
            if (grains[s] > most) {
                most = grains[s];
                chosen = s;
            }
        }
        return chosen;
    }

    private int moveAll(int[] from, int[] to) {
        int came = 0;
        for (int s = 0; s < barn.sorts; s++) {
            came += move(s, from, to);
        }
        return came;
    }

    private int move(int sort, int[] from, int[] to) {
        int came = from[sort];
        from[sort] = 0;
        to[sort] += came;
        return came;
    }

    // ---- what parts what

    public int parts(int a, int b) {
        if (!isSort(a) || !isSort(b)) {
            return NONE;
        }
        int winds = 0;
        int farthest = 0;
        int by = 0;
        for (int i = 0; i < WINDS; i++) {
            int wind = windBySize(i);
            int apart = Math.abs(barn.landing(a, wind) - barn.landing(b, wind));
            if (apart > 0) {
                winds++;
            }
            if (apart > farthest) {
                farthest = apart;
                by = wind;
            }
        }
        told.clear();
        if (winds > 0) {
            told.add(by);
            told.add(farthest);
        }
        return winds;
    }

    public int never() {
        told.clear();
        int pairs = 0;
        for (int a = 0; a < barn.sorts; a++) {
            for (int b = 0; b < barn.sorts; b++) {
                if (barn.isCorn(a) && !barn.isCorn(b) && landAlike(a, b)) {
                    pairs++;
                    if (pairs == 1) {
                        told.add(a);
                        told.add(b);
                    }
                }
            }
        }
        return pairs;
    }

    public int best(int heap) {
        if (!isHeap(heap)) {
            return NONE;
        }
        int[] grains = store.heaps[heap];
        int most = NONE;
        int chosen = 0;
        for (int i = 0; i < WINDS; i++) {
            landAll(windBySize(i));
            int clean = cleanCorn(grains, landed);
            if (clean > most) {
                most = clean;
                chosen = windBySize(i);
            }
        }
        landAll(chosen);
        told.only(most);
        told.add(cornOut(grains));
        return chosen;
    }

    public int aim(int heap, int wind) {
        if (!isHeap(heap) || !isWind(wind)) {
            return NONE;
        }
        int[] grains = store.heaps[heap];
        int most = NONE;
        int height = 0;
        int slant = 0;
        for (int tried = -AIM_SLANT; tried <= AIM_SLANT; tried += AIM_SLANT_STEP) {
            landFromHeights(wind, tried);
            for (int i = 0; i < AIM_HEIGHTS; i++) {
                int clean = cleanCorn(grains, landedFrom[i]);
                if (clean > most || clean == most && heightAt(i) < height) {
                    most = clean;
                    height = heightAt(i);
                    slant = tried;
                }
            }
        }
        told.only(height);
        told.add(slant);
        return most;
    }

    public int fan(int heap, int lost) {
        if (!isHeap(heap) || lost < 0) {
            return NONE;
        }
        int[] grains = store.heaps[heap];
        for (int turns = MOST_TURNS; turns >= 0; turns--) {
            landAll(2 * turns);
            if (cornOut(grains) <= lost) {
                told.only(chaffWithCorn(grains));
                return turns;
            }
        }
        return NOT_ENOUGH;
    }

    public int serves(int a, int b) {
        if (!isSort(a) || !isSort(b)) {
            return NONE;
        }
        int bits = 0;
        for (int line = 0; line < gusts.lines; line++) {
            int wind = gusts.windOf(line);
            if (barn.landing(a, wind) != barn.landing(b, wind)) {
                bits |= 1 << line;
            }
        }
        return bits;
    }

    public int odds(int sort, int line, int from, int to) {
        if (!isSort(sort) || line < 0 || line >= gusts.lines || !areYards(from, to)) {
            return NONE;
        }
        int spread = gusts.spreadOf(line);
        int there = 0;
        for (int more = -spread; more <= spread; more++) {
            int yard = barn.landing(sort, put(gusts.windOf(line) + more, -GALE, GALE));
            if (yard >= from && yard <= to) {
                there++;
            }
        }
        told.clear();
        tellFraction(there, 2 * spread + 1);
        return 0;
    }

    public int kin(int sort) {
        if (!isSort(sort)) {
            return NONE;
        }
        int bits = 0;
        for (int other = 0; other < barn.sorts; other++) {
            if (other != sort && landAlike(sort, other)) {
                bits |= 1 << other;
            }
        }
        return bits;
    }

    public int sends(int sort, int yard) {
        if (!isSort(sort) || !isYardOrOut(yard)) {
            return NONE;
        }
        int winds = 0;
        int first = 0;
        for (int i = 0; i < WINDS; i++) {
            if (barn.landing(sort, windBySize(i)) == yard) {
                first = winds == 0 ? windBySize(i) : first;
                winds++;
            }
        }
        if (winds == 0) {
            return NO_WIND;
        }
        told.only(winds);
        return first;
    }

    /** The WINDS by their size, of equal ones that below 0 first. */
    private static int windBySize(int i) {
        return (i & 1) == 1 ? -((i + 1) >> 1) : i >> 1;
    }

    private static int heightAt(int i) {
        return AIM_HEIGHT_STEP * (i + 1);
    }

    private void landAll(int wind) {
        for (int s = 0; s < barn.sorts; s++) {
            landed[s] = barn.landing(s, wind);
        }
    }

    /** How a grain falls does not hang on the HEIGHT, so that one fall passes by all of them. */
    private void landFromHeights(int wind, int slant) {
        for (int s = 0; s < barn.sorts; s++) {
            barn.throwUp(s, wind, slant);
            for (int i = 0; i < AIM_HEIGHTS; i++) {
                barn.flight.fall(heightAt(i));
                landedFrom[i][s] = barn.yardAt(barn.flight.x);
            }
        }
    }

    private boolean landAlike(int a, int b) {
        for (int wind = -GALE; wind <= GALE; wind++) {
            if (barn.landing(a, wind) != barn.landing(b, wind)) {
                return false;
            }
        }
        return true;
    }

    /** Grains of corn in YARDS to which nothing but corn comes. */
    private int cleanCorn(int[] grains, int[] where) {
        int clean = 0;
        for (int s = 0; s < barn.sorts; s++) {
            if (barn.isCorn(s) && !barn.isOut(where[s]) && !isSoiled(grains, where, where[s])) {
                clean += grains[s];
            }
        }
        return clean;
    }

    private boolean isSoiled(int[] grains, int[] where, int yard) {
        for (int s = 0; s < barn.sorts; s++) {
            if (!barn.isCorn(s) && grains[s] > 0 && where[s] == yard) {
                return true;
            }
        }
        return false;
    }

    private int cornOut(int[] grains) {
        int gone = 0;
        for (int s = 0; s < barn.sorts; s++) {
            if (barn.isCorn(s) && barn.isOut(landed[s])) {
                gone += grains[s];
            }
        }
        return gone;
    }

    private int chaffWithCorn(int[] grains) {
        int chaff = 0;
        for (int s = 0; s < barn.sorts; s++) {
            if (barn.kind[s] == CHAFF && !barn.isOut(landed[s]) && cornLandsIn(grains, landed[s])) {
                chaff += grains[s];
            }
        }
        return chaff;
    }

    private boolean cornLandsIn(int[] grains, int yard) {
        for (int s = 0; s < barn.sorts; s++) {
            if (barn.isCorn(s) && grains[s] > 0 && landed[s] == yard) {
                return true;
            }
        }
        return false;
    }

    // ---- what it sells for

    public int price(int price, int heap) throws NoSuchElementException {
        if (price < 0 || price >= Market.PRICES || !isHeap(heap) || !market.isTold(price)) {
            throw new NoSuchElementException();
        }
        market.weigh(barn, store.heaps[heap]);
        return market.valueOf(price);
    }

    public int worth(int heap) {
        if (!isHeap(heap)) {
            return NONE;
        }
        int most = market.worthOf(barn, store.heaps[heap]);
        told.only(market.chosen);
        told.add(sumOf(store.heaps[heap]));
        return most;
    }

    public int marks(int k) {
        if (k < 1 || k > MOST_MARKED) {
            return NONE;
        }
        int most = Math.min(k, barn.yards);
        weighYards();
        weighMarks(most);
        int heaps = 1;
        for (int j = 2; j <= most; j++) {
            if (worthFrom[j][0] > worthFrom[heaps][0]) {
                heaps = j;
            }
        }
        told.only(heaps);
        int from = 0;
        for (int j = heaps; j > 1; j--) {
            from = firstMark(j, from);
            told.add(from);
        }
        return worthFrom[heaps][0];
    }

    public int may(int heap, int sort, int worth) {
        if (!isHeap(heap) || !isSort(sort)) {
            return NONE;
        }
        copy(store.heaps[heap], oneHeap);
        int ways = 0;
        int least = 0;
        int most = 0;
        for (int n = 0; n <= MOST_GRAINS; n++) {
            oneHeap[sort] = n;
            if (market.worthOf(barn, oneHeap) >= worth) {
                least = ways == 0 ? n : least;
                most = n;
                ways++;
            }
        }
        told.clear();
        if (ways > 0) {
            told.add(least);
            told.add(most);
        }
        return ways;
    }

    public int bushel(int heap, int n) {
        if (!isHeap(heap) || n < 0 || n > MOST_GRAINS) {
            return NONE;
        }
        int[] grains = store.heaps[heap];
        if (sumOf(grains) < n) {
            return NOT_ENOUGH;
        }
        told.only(pick(grains, n, false));
        told.add(pick(grains, n, true));
        return 0;
    }

    public int away(int heap) {
        if (!isHeap(heap)) {
            return NONE;
        }
        int[] grains = store.heaps[heap];
        int chosen = NONE;
        int most = 0;
        for (int s = 0; s < barn.sorts; s++) {
            int rest = worthWithout(grains, s);
            if (grains[s] > 0 && (chosen == NONE || rest > most)) {
                chosen = s;
                most = rest;
            }
        }
        if (chosen == NONE) {
            return NOT_ENOUGH;
        }
        told.only(most - market.worthOf(barn, grains));
        return chosen;
    }

    public int shift(int heap, int other, int sort) {
        if (!areTwoHeaps(heap, other) || !isSort(sort)) {
            return NONE;
        }
        copy(store.heaps[heap], oneHeap);
        copy(store.heaps[other], otherHeap);
        int there = Math.min(oneHeap[sort], MOST_GRAINS);
        int chosen = 0;
        int most = NONE;
        for (int n = 0; n <= there; n++) {
            int both = market.worthOf(barn, oneHeap) + market.worthOf(barn, otherHeap);
            if (both > most) {
                most = both;
                chosen = n;
            }
            oneHeap[sort]--;
            otherHeap[sort]++;
        }
        told.only(most);
        return chosen;
    }

    private int worthWithout(int[] grains, int sort) {
        copy(grains, oneHeap);
        oneHeap[sort] = 0;
        return market.worthOf(barn, oneHeap);
    }

    private void weighYards() {
        for (int a = 0; a < barn.yards; a++) {
            Arrays.fill(oneHeap, 0);
            for (int b = a; b < barn.yards; b++) {
                for (int s = 0; s < barn.sorts; s++) {
                    oneHeap[s] += store.yards[b][s];
                }
                worthOfYards[a][b] = market.worthOf(barn, oneHeap);
            }
        }
    }

    private void weighMarks(int most) {
        for (int a = 0; a < barn.yards; a++) {
            worthFrom[1][a] = worthOfYards[a][barn.yards - 1];
        }
        for (int j = 2; j <= most; j++) {
            for (int a = 0; a + j <= barn.yards; a++) {
                worthFrom[j][a] = worthParted(j, a, firstMark(j, a));
            }
        }
    }

    /** The least mark at which the first of j heaps of the YARDS a .. should end. */
    private int firstMark(int j, int a) {
        int chosen = a + 1;
        for (int mark = a + 2; mark + j - 1 <= barn.yards; mark++) {
            if (worthParted(j, a, mark) > worthParted(j, a, chosen)) {
                chosen = mark;
            }
        }
        return chosen;
    }

    private int worthParted(int j, int a, int mark) {
        return worthOfYards[a][mark - 1] + worthFrom[j - 1][mark];
    }

    /** WEIGHT of n grains, the heaviest or the lightest ones, of equal ones the first SORT. */
    private long pick(int[] grains, int n, boolean heaviest) {
        picked = 0;
        long weight = 0;
        int left = n;
        for (int turn = 0; turn < barn.sorts && left > 0; turn++) {
            int s = nextToPick(grains, heaviest);
            if (s == NONE) {
                return weight;
            }
            int some = Math.min(left, grains[s]);
            weight += (long) some * barn.weight[s];
            left -= some;
            picked |= 1 << s;
        }
        return weight;
    }

    private int nextToPick(int[] grains, boolean heaviest) {
        int chosen = NONE;
        for (int s = 0; s < barn.sorts; s++) {
            if (grains[s] > 0 && (picked >> s & 1) == 0) {
                if (chosen == NONE || isAhead(s, chosen, heaviest)) {
                    chosen = s;
                }
            }
        }
        return chosen;
    }

    private boolean isAhead(int sort, int other, boolean heaviest) {
        return heaviest ? barn.weight[sort] > barn.weight[other] : barn.weight[sort] < barn.weight[other];
    }

    // ---- passes

    public int blow(int wind, int from, int to) {
        if (!isWind(wind) || !areYards(from, to) || passCount >= MOST_PASSES) {
            return NONE;
        }
        passes[passCount] = new Pass(wind, from, to);
        return passCount++;
    }

    public int hole(int hole, boolean over) {
        if (!isHole(hole) || passCount >= MOST_PASSES) {
            return NONE;
        }
        passes[passCount] = new Pass(hole, over);
        return passCount++;
    }

    public int stays(int pass) {
        return pass >= 0 && pass < passCount ? stayingIn(passes[pass]) : NONE;
    }

    public int order(int heap, int clean, int kept) {
        if (!canOrder(heap, clean, kept)) {
            return NONE;
        }
        int chosen = fewestPasses(store.heaps[heap], clean, kept);
        if (chosen == NONE) {
            return NOT_ENOUGH;
        }
        told.only(chosen);
        return Integer.bitCount(chosen);
    }

    public int needed(int heap, int clean, int kept) {
        if (!canOrder(heap, clean, kept)) {
            return NONE;
        }
        int[] grains = store.heaps[heap];
        int chosen = fewestPasses(grains, clean, kept);
        if (chosen == NONE) {
            return NOT_ENOUGH;
        }
        int bits = 0;
        for (int p = 0; p < passCount; p++) {
            if ((chosen >> p & 1) == 1 && !does(grains, chosen & ~(1 << p), clean, kept)) {
                bits |= 1 << p;
            }
        }
        return bits;
    }

    public int strokes(int heap) {
        if (!isHeap(heap)) {
            return NONE;
        }
        int alone = 0;
        int cornBy = 0;
        int left = 0;
        for (int s = 0; s < barn.sorts; s++) {
            int grains = store.heaps[heap][s];
            int by = grains > 0 ? strokesFlinging(s) : 0;
            if (barn.isCorn(s)) {
                cornBy |= by & -by;
            }
            if (barn.kind[s] == STONE) {
                alone |= Integer.bitCount(by) == 1 ? by : 0;
                left += by == 0 ? grains : 0;
            }
        }
        told.only(cornBy);
        told.add(left);
        return alone;
    }

    public int find(int sorts) {
        if (sorts < 1 || sorts >= 1 << barn.sorts) {
            return NONE;
        }
        int all = (1 << barn.sorts) - 1;
        int chosen = NONE;
        int fewest = 0;
        for (int p = 0; p < passCount; p++) {
            int otherwise = Integer.bitCount(sorts ^ all & ~stayingIn(passes[p]));
            if (chosen == NONE || otherwise < fewest) {
                chosen = p;
                fewest = otherwise;
            }
        }
        if (chosen == NONE) {
            return NOT_ENOUGH;
        }
        told.only(fewest);
        return chosen;
    }

    /** SORTS that stay; a FAN told in a longer barn may reach over its door, where nothing does. */
    private int stayingIn(Pass pass) {
        int bits = 0;
        for (int s = 0; s < barn.sorts && pass != null; s++) {
            int yard = pass.isFan ? barn.landing(s, pass.wind) : 0;
            boolean there = pass.isFan ? pass.catches(yard) && !barn.isOut(yard) : pass.holds(barn.size[s]);
            if (there) {
                bits |= 1 << s;
            }
        }
        return bits;
    }

    private boolean canOrder(int heap, int clean, int kept) {
        return isHeap(heap) && isShare(clean) && isShare(kept) && hasCorn(store.heaps[heap]);
    }

    private boolean hasCorn(int[] grains) {
        for (int s = 0; s < barn.sorts; s++) {
            if (barn.isCorn(s) && grains[s] > 0) {
                return true;
            }
        }
        return false;
    }

    /** PASSES (bits) that do, or NONE. */
    private int fewestPasses(int[] grains, int clean, int kept) {
        for (int p = 0; p < passCount; p++) {
            staying[p] = stayingIn(passes[p]);
        }
        int chosen = NONE;
        for (int bits = 0; bits < 1 << passCount; bits++) {
            if (does(grains, bits, clean, kept) && (chosen == NONE || isBetter(grains, bits, chosen))) {
                chosen = bits;
            }
        }
        return chosen;
    }

    private boolean isBetter(int[] grains, int bits, int other) {
        int fewer = Integer.bitCount(other) - Integer.bitCount(bits);
        return fewer > 0 || fewer == 0 && grainsLeft(grains, bits) > grainsLeft(grains, other);
    }

    private int sortsLeft(int bits) {
        int left = (1 << barn.sorts) - 1;
        for (int p = 0; p < passCount; p++) {
            if ((bits >> p & 1) == 1) {
                left &= staying[p];
            }
        }
        return left;
    }

    private int grainsLeft(int[] grains, int bits) {
        int left = sortsLeft(bits);
        int sum = 0;
        for (int s = 0; s < barn.sorts; s++) {
            if ((left >> s & 1) == 1) {
                sum += grains[s];
            }
        }
        return sum;
    }

    private boolean does(int[] grains, int bits, int clean, int kept) {
        int left = sortsLeft(bits);
        long corn = 0;
        long cornLeft = 0;
        long allLeft = 0;
        for (int s = 0; s < barn.sorts; s++) {
            long weight = (long) grains[s] * barn.weight[s];
            long weightLeft = (left >> s & 1) == 1 ? weight : 0;
            allLeft += weightLeft;
            if (barn.isCorn(s)) {
                corn += weight;
                cornLeft += weightLeft;
            }
        }
        return 100 * cornLeft >= clean * allLeft && 100 * cornLeft >= kept * corn;
    }

    private int strokesFlinging(int sort) {
        int bits = 0;
        for (int k = 1; k <= STROKES; k++) {
            if (market.flings(barn, sort, k)) {
                bits |= 1 << k - 1;
            }
        }
        return bits;
    }

    // ---- gusts, seed, samples

    public int await(int n, int c, int a, int b, int cost) {
        boolean fits = n >= 1 && n <= MOST_MINUTES && c >= 0 && c <= 10 && a >= 0 && a <= MOST_GRAINS;
        if (!fits || b < 0 || b > a || cost < 0 || cost > 99) {
            return NONE;
        }
        long hope = (long) c * a + (10 - c) * b;
        long parts = 10;
        int waits = 0;
        for (int minute = 2; minute <= n; minute++) {
            long waited = hope - cost * parts;
            if (waited > b * parts) {
                waits++;
            }
            hope = c * Math.max(a * parts, waited) + (10 - c) * Math.max(b * parts, waited);
            parts *= 10;
        }
        told.only(hope);
        told.add(waits);
        return 0;
    }

    public int heavy(int heap) {
        if (!isHeap(heap)) {
            return NONE;
        }
        int[] grains = store.heaps[heap];
        int all = sumOf(grains);
        int n = all / 10 + (all % 10 > 0 ? 1 : 0);
        long weight = pick(grains, n, true);
        told.clear();
        tellFraction(weight, n);
        told.add(picked);
        return n;
    }

    public int sample(int heap, int g) {
        if (!isHeap(heap) || g < 1 || g > MOST_SAMPLE) {
            return NONE;
        }
        int all = sumOf(store.heaps[heap]);
        if (all > MOST_SAMPLED) {
            return TOO_MANY;
        }
        if (all < g) {
            return NOT_ENOUGH;
        }
        told.clear();
        tellFraction(waysToTake(cornOf(store.heaps[heap]), g), waysToTake(all, g));
        return 0;
    }

    public int grains(int heap, int sure) {
        if (!isHeap(heap) || sure < 1 || sure > 100) {
            return NONE;
        }
        int all = sumOf(store.heaps[heap]);
        if (all > MOST_SAMPLED) {
            return TOO_MANY;
        }
        int corn = cornOf(store.heaps[heap]);
        for (int g = 1; g <= MOST_SAMPLE && g <= all; g++) {
            long ways = waysToTake(all, g);
            if (100 * (ways - waysToTake(corn, g)) >= sure * ways) {
                return g;
            }
        }
        return NOT_ENOUGH;
    }

    private int cornOf(int[] grains) {
        int sum = 0;
        for (int s = 0; s < barn.sorts; s++) {
            sum += barn.isCorn(s) ? grains[s] : 0;
        }
        return sum;
    }

    /** Ways to take g of n grains one by one: at most 2000 to the 4th, which a long holds. */
    private static long waysToTake(int n, int g) {
        long ways = 1;
        for (int i = 0; i < g; i++) {
            ways *= Math.max(0, n - i);
        }
        return ways;
    }

    // ---- kept

    public int seed(int v) {
        int before = store.random;
        store.random = v;
        return before;
    }

    public boolean keep(int i) {
        if (i < 0 || i >= KEPT) {
            return false;
        }
        kept[i].copyOf(store);
        kept[i].keptYards = barn.yards;
        return true;
    }

    public boolean again(int i) {
        if (i < 0 || i >= KEPT || kept[i].keptYards != barn.yards) {
            return false;
        }
        store.copyOf(kept[i]);
        return true;
    }

    public int count(int what) {
        switch (what) {
            case 0:
                return barn.sorts;
            case 1:
                return barn.yards;
            case 2:
                return store.thrown;
            case 3:
                return market.told();
            case 4:
                return passCount;
            case 5:
                return sumOfAll(store.heaps);
            case 6:
                return sumOfAll(store.yards);
            case 7:
                return sumOf(store.out);
            case 8:
                return told.length;
            case 9:
                return signs.length;
            default:
                return NONE;
        }
    }

    public long row(int i) throws NoSuchElementException {
        if (i < 0 || i >= told.length) {
            throw new NoSuchElementException();
        }
        return told.number[i];
    }

    // ---- what all of them ask

    private static boolean isHeap(int heap) {
        return heap >= 0 && heap < HEAPS;
    }

    private static boolean areTwoHeaps(int heap, int other) {
        return isHeap(heap) && isHeap(other) && heap != other;
    }

    private static boolean isWind(int wind) {
        return wind >= -GALE && wind <= GALE;
    }

    private static boolean isHole(int hole) {
        return hole >= 1 && hole <= HOLES;
    }

    private static boolean isShare(int share) {
        return share >= 0 && share <= 100;
    }

    private boolean isSort(int sort) {
        return sort >= 0 && sort < barn.sorts;
    }

    private boolean areYards(int from, int to) {
        return from >= 0 && from <= to && to < barn.yards;
    }

    private boolean isYardOrOut(int yard) {
        return yard >= 0 && yard <= barn.yards;
    }

    /** What lies in a YARD, or OUT. */
    private int[] placeOf(int yard) {
        return barn.isOut(yard) ? store.out : store.yards[yard];
    }

    private static int sumOf(int[] grains) {
        int sum = 0;
        for (int n : grains) {
            sum += n;
        }
        return sum;
    }

    private static int sumOfAll(int[][] heaps) {
        int sum = 0;
        for (int[] grains : heaps) {
            sum += sumOf(grains);
        }
        return sum;
    }

    private static void copy(int[] from, int[] to) {
        System.arraycopy(from, 0, to, 0, SORTS);
    }

    private static int put(int v, int least, int most) {
        return Math.max(least, Math.min(most, v));
    }

    private void tellFraction(long upper, long lower) {
        long common = upper == 0 ? lower : commonPart(upper, lower);
        told.add(common == 0 ? 0 : upper / common);
        told.add(common == 0 ? 1 : lower / common);
    }

    private static long commonPart(long a, long b) {
        long greater = a;
        long less = b;
        for (int i = 0; i < 100 && less != 0; i++) {
            long rest = greater % less;
            greater = less;
            less = rest;
        }
        return greater;
    }

    /** THE TEXT, and how far it has been read. */
    private static final class Signs {
        private static final int MOST = 80;

        private final char[] sign = new char[MOST];
        private int length = 0;
        private int place = 0;
        private int limit = 0;
        private boolean more = false;

        private int append(int v) {
            if (length + 4 > MOST) {
                return NONE;
            }
            for (int bits = 24; bits >= 0; bits -= 8) {
                sign[length] = (char) (v >>> bits & 255);
                length++;
            }
            return length;
        }

        private boolean shorten(int n) {
            if (n < 0 || n > length) {
                return false;
            }
            length = n;
            return true;
        }

        private void clear() {
            length = 0;
        }

        /** Signs behind the most that there may be are not read. */
        private void open(int most) {
            place = 0;
            limit = Math.min(length, most);
            more = length > most;
        }

        private boolean hasMore() {
            return more;
        }

        private boolean isDone() {
            return place >= limit;
        }

        /** What a call answers if the sign at the place that was reached can't stand there. */
        private int fault() {
            return -1 - place;
        }

        private boolean isNext(char c) {
            return place < limit && sign[place] == c;
        }

        private boolean take(char c) {
            if (!isNext(c)) {
                return false;
            }
            place++;
            return true;
        }

        /** Which of some letters comes; it is taken, if it is one of them. */
        private int takeOneOf(String letters) {
            int which = place < limit ? letters.indexOf(sign[place]) : NONE;
            if (which >= 0) {
                place++;
                return which;
            }
            return NONE;
        }

        /** A number, or NONE: then the place is that of the sign that is wrong. */
        private int number(int digits, int least, int most) {
            int n = 0;
            int have = 0;
            while (have < digits && isDigitNext()) {
                n = 10 * n + sign[place] - '0';
                place++;
                have++;
            }
            if (have > 0 && (n < least || n > most)) {
                place--;
                return NONE;
            }
            return have > 0 ? n : NONE;
        }

        private boolean isDigitNext() {
            return place < limit && sign[place] >= '0' && sign[place] <= '9';
        }
    }

    /** THE ROW. */
    private static final class Row {
        private final long[] number = new long[MOST_MARKED];
        private int length = 0;

        private void clear() {
            length = 0;
        }

        private void only(long v) {
            length = 0;
            add(v);
        }

        private void add(long v) {
            if (length < number.length) {
                number[length] = v;
                length++;
            }
        }
    }

    /** SORTS, LONG, SETTINGS, and where by them a grain lands. */
    private static final class Barn {
        private static final String LETTERS = "chws";
        private static final int UNKNOWN = -1;

        private final int[] kind = new int[SORTS];
        private final int[] weight = new int[SORTS];
        private final int[] size = new int[SORTS];
        private final int[] drag = new int[SORTS];
        private final int[] many = new int[SORTS];
        private int sorts = 0;
        private int yards = 12;
        /** As they will be, if the text that is read is one: SORTS behind those told are no SORTS yet. */
        private int sortsToBe = 0;
        private int yardsToBe = 0;
        private int standToBe = 0;
        private final int[] setting = {100, 0, 0, 20, 0};
        private final Flight flight = new Flight();
        /** Where each SORT lands in each WIND, as far as it was asked since the last change. */
        private final int[][] chart = new int[SORTS][WINDS];

        /** How many LINES, or NONE. */
        private int read(Signs signs) {
            sortsToBe = sorts;
            yardsToBe = 0;
            standToBe = setting[STAND];
            if (signs.isDone()) {
                return 0;
            }
            for (int lines = 1; lines <= BARN_SIGNS; lines++) {
                if (!readLine(signs)) {
                    return NONE;
                }
                if (signs.isDone()) {
                    return lines;
                }
                if (!signs.take(';')) {
                    return NONE;
                }
            }
            return NONE;
        }

        private boolean readLine(Signs signs) {
            if (signs.take('y')) {
                return readYards(signs);
            }
            if (sortsToBe >= SORTS) {
                return false;
            }
            return readSort(signs, sortsToBe);
        }

        /** A shorter LONG brings STAND nearer, even if a LINE behind it tells a longer one. */
        private boolean readYards(Signs signs) {
            int n = signs.number(2, 2, MOST_YARDS);
            if (n == NONE) {
                return false;
            }
            yardsToBe = n;
            standToBe = Math.min(standToBe, n - 1);
            return true;
        }

        private boolean readSort(Signs signs, int s) {
            kind[s] = signs.takeOneOf(LETTERS);
            if (kind[s] == NONE) {
                return false;
            }
            weight[s] = signs.number(2, 1, 99);
            if (weight[s] == NONE || !signs.take(',')) {
                return false;
            }
            size[s] = signs.number(2, 1, HOLES);
            if (size[s] == NONE || !signs.take(',')) {
                return false;
            }
            drag[s] = signs.number(2, 0, 60);
            if (drag[s] == NONE || !signs.take('*')) {
                return false;
            }
            many[s] = signs.number(3, 0, MOST_GRAINS);
            if (many[s] == NONE) {
                return false;
            }
            sortsToBe = s + 1;
            return true;
        }

        private boolean tellsYards() {
            return yardsToBe > 0;
        }

        private void settle() {
            sorts = sortsToBe;
            if (tellsYards()) {
                yards = yardsToBe;
                setting[STAND] = standToBe;
            }
            forgetLandings();
        }

        private int leastOf(int what) {
            if (what == SLANT) {
                return -40;
            }
            return what == HEIGHT || what == SHOVEL ? 1 : 0;
        }

        private int mostOf(int what) {
            switch (what) {
                case HEIGHT:
                    return 400;
                case SLANT:
                    return 40;
                case STAND:
                    return yards - 1;
                case SHOVEL:
                    return 99;
                default:
                    return 50;
            }
        }

        /** A SETTING becomes v: what it was. */
        private int change(int what, int v) {
            int before = setting[what];
            setting[what] = v;
            forgetLandings();
            return before;
        }

        private boolean isCorn(int sort) {
            return kind[sort] == CORN;
        }

        private boolean isOut(int yard) {
            return yard >= yards;
        }

        private void forgetLandings() {
            for (int s = 0; s < SORTS; s++) {
                Arrays.fill(chart[s], UNKNOWN);
            }
        }

        private int landing(int sort, int wind) {
            int known = chart[sort][wind + GALE];
            if (known != UNKNOWN) {
                return known;
            }
            int yard = land(sort, wind);
            chart[sort][wind + GALE] = yard;
            return yard;
        }

        private int land(int sort, int wind) {
            throwUp(sort, wind, setting[SLANT]);
            flight.fall(setting[HEIGHT]);
            return yardAt(flight.x);
        }

        private void throwUp(int sort, int wind, int slant) {
            flight.start(weight[sort] + setting[WET], drag[sort], wind, slant);
        }

        private int yardAt(int x) {
            return put(setting[STAND] + Math.floorDiv(x, 16), 0, yards);
        }
    }

    /** A FALL, TICK by TICK. */
    private static final class Flight {
        /** Each TICK takes at least 1 of the HEIGHT. */
        private static final int MOST_TICKS = 400;

        private int pull = 1;
        private int drag = 0;
        private int wind = 0;
        private int drift = 0;
        private int ticks = 0;
        private int x = 0;
        private int speed = 0;
        private int fallen = 0;

        private void start(int weight, int sortsDrag, int itsWind, int slant) {
            pull = Math.max(1, 4 * weight);
            drag = Math.min(sortsDrag, pull);
            wind = itsWind;
            drift = slant;
            ticks = 0;
            x = 0;
            speed = 0;
            fallen = 0;
        }

        /** Goes on till as much as a HEIGHT is fallen. */
        private void fall(int height) {
            for (int i = 0; i < MOST_TICKS && fallen < height; i++) {
                tick();
            }
        }

        private void tick() {
            speed += 2;
            speed -= drag * speed / pull;
            drift += drag * (wind - drift) / pull;
            x += drift;
            fallen += Math.max(1, speed);
            ticks++;
        }
    }

    /** HEAPS, YARDS, OUT, THROWS, R. */
    private static final class Store {
        private final int[][] heaps = new int[HEAPS][SORTS];
        private final int[][] yards = new int[MOST_YARDS][SORTS];
        private final int[] out = new int[SORTS];
        private int thrown = 0;
        private int random = 1;
        /** LONG as it was when this was kept (0: nothing is kept). */
        private int keptYards = 0;

        private void copyOf(Store other) {
            for (int h = 0; h < HEAPS; h++) {
                copy(other.heaps[h], heaps[h]);
            }
            for (int y = 0; y < MOST_YARDS; y++) {
                copy(other.yards[y], yards[y]);
            }
            copy(other.out, out);
            thrown = other.thrown;
            random = other.random;
        }

        private void clearYards() {
            for (int y = 0; y < MOST_YARDS; y++) {
                Arrays.fill(yards[y], 0);
            }
        }

        /** A DRAW of n. */
        private int draw(int n) {
            random = random * 1103515245 + 12345;
            return n > 0 ? (random >>> 16) % n : 0;
        }
    }

    /** THE WIND. */
    private static final class Gusts {
        /** A LINE has three signs and ; at least. */
        private static final int MOST_LINES = 10;

        private final int[] winds = new int[MOST_LINES];
        private final int[] times = new int[MOST_LINES];
        private final int[] spreads = new int[MOST_LINES];
        private int lines = 0;
        private int round = 0;

        /** How many LINES, or NONE. */
        private int read(Signs signs) {
            lines = 0;
            round = 0;
            if (signs.isDone()) {
                return 0;
            }
            for (int i = 0; i < MOST_LINES; i++) {
                if (!readLine(signs, i)) {
                    return NONE;
                }
                lines = i + 1;
                round += times[i];
                if (signs.isDone()) {
                    return lines;
                }
                if (!signs.take(';')) {
                    return NONE;
                }
            }
            return NONE;
        }

        private boolean readLine(Signs signs, int i) {
            boolean below = signs.take('-');
            int size = signs.number(2, 0, GALE);
            if (size == NONE || !signs.take('*')) {
                return false;
            }
            winds[i] = below ? -size : size;
            times[i] = signs.number(2, 1, 99);
            spreads[i] = 0;
            if (times[i] == NONE) {
                return false;
            }
            if (signs.take('~')) {
                spreads[i] = signs.number(2, 1, 20);
            }
            return spreads[i] != NONE;
        }

        /** The LINE of a THROW (NONE: no WIND is told). */
        private int lineAt(int thrown) {
            int left = round == 0 ? 0 : thrown % round;
            for (int i = 0; i < lines; i++) {
                if (left < times[i]) {
                    return i;
                }
                left -= times[i];
            }
            return NONE;
        }

        /** THROWS of its LINE from this one on. */
        private int leftAt(int thrown) {
            int left = round == 0 ? 0 : thrown % round;
            for (int i = 0; i < lines; i++) {
                if (left < times[i]) {
                    return times[i] - left;
                }
                left -= times[i];
            }
            return 0;
        }

        private int windOf(int line) {
            return line >= 0 && line < lines ? winds[line] : 0;
        }

        private int spreadOf(int line) {
            return line >= 0 && line < lines ? spreads[line] : 0;
        }
    }

    /** A FAN or a SIEVE. */
    private static final class Pass {
        private final boolean isFan;
        private final int wind;
        private final int from;
        private final int to;
        private final int hole;
        private final boolean over;

        private Pass(int wind, int from, int to) {
            this.isFan = true;
            this.wind = wind;
            this.from = from;
            this.to = to;
            this.hole = 0;
            this.over = false;
        }

        private Pass(int hole, boolean over) {
            this.isFan = false;
            this.wind = 0;
            this.from = 0;
            this.to = 0;
            this.hole = hole;
            this.over = over;
        }

        private boolean catches(int yard) {
            return yard >= from && yard <= to;
        }

        private boolean holds(int size) {
            return size >= hole == over;
        }
    }

    /** PRICES and THE LAW. */
    private static final class Market {
        private static final int PRICES = 3;
        private static final int LAW = 3;
        private static final int MOST_VALUE = 99999;
        private static final String OF_A_HEAP = "mchwsnkp";
        private static final String OF_A_SORT = "wzdik";

        private final Formula[] formulas = {new Formula(), new Formula(), new Formula(), new Formula()};
        private Formula toBe = new Formula();
        /** What the letters stand for, in their order. */
        private final int[] things = new int[8];
        /** The PRICE by which the WORTH was asked last. */
        private int chosen = NONE;

        private boolean read(Signs signs, int what) {
            return toBe.read(signs, what == LAW ? OF_A_SORT : OF_A_HEAP);
        }

        private void settle(int what) {
            Formula before = formulas[what];
            formulas[what] = toBe;
            toBe = before;
        }

        private boolean isTold(int what) {
            return formulas[what].length > 0;
        }

        private int told() {
            int bits = 0;
            for (int what = 0; what <= LAW; what++) {
                bits |= isTold(what) ? 1 << what : 0;
            }
            return bits;
        }

        private void weigh(Barn barn, int[] grains) {
            Arrays.fill(things, 0);
            for (int s = 0; s < barn.sorts; s++) {
                int weight = grains[s] * barn.weight[s];
                things[0] += weight;
                things[1 + barn.kind[s]] += weight;
                things[5] += grains[s];
                if (barn.isCorn(s) && grains[s] > 0) {
                    things[6]++;
                }
            }
            things[7] = things[0] == 0 ? 0 : things[1] * 100 / things[0];
        }

        /** A PRICE of what was weighed last. */
        private int valueOf(int price) {
            return put(formulas[price].value(things), -MOST_VALUE, MOST_VALUE);
        }

        private int worthOf(Barn barn, int[] grains) {
            weigh(barn, grains);
            chosen = NONE;
            int most = 0;
            for (int price = 0; price < PRICES && things[5] > 0; price++) {
                int value = isTold(price) ? valueOf(price) : NONE;
                if (value >= 0 && (chosen == NONE || value > most)) {
                    most = value;
                    chosen = price;
                }
            }
            return most;
        }

        private boolean flings(Barn barn, int sort, int stroke) {
            things[0] = barn.weight[sort];
            things[1] = barn.size[sort];
            things[2] = barn.drag[sort];
            things[3] = barn.kind[sort];
            things[4] = stroke;
            return isTold(LAW) && formulas[LAW].value(things) != 0;
        }
    }

    /** An EXPRESSION, its things ahead of what is done with them. */
    private static final class Formula {
        private static final int DEEPEST = 4;
        /** Codes below this are numbers, */
        private static final int NUMBERS = 1000;
        /** below this things, by their place among the letters, and from it on operations. */
        private static final int THINGS = 2000;
        private static final int LESS = 2000;
        private static final int SUMS = 2003;
        private static final int PRODUCTS = 2005;
        private static final int NEGATE = 2007;

        private final int[] code = new int[LINE_SIGNS];
        private final int[] stack = new int[LINE_SIGNS];
        private int length = 0;

        private boolean read(Signs signs, String letters) {
            length = 0;
            return signs.isDone() || readComparison(signs, letters, 0) && signs.isDone();
        }

        private boolean readComparison(Signs signs, String letters, int depth) {
            if (!readSum(signs, letters, depth)) {
                return false;
            }
            int which = signs.takeOneOf("<>=");
            return which == NONE || readSum(signs, letters, depth) && append(LESS + which);
        }

        private boolean readSum(Signs signs, String letters, int depth) {
            if (!readProduct(signs, letters, depth)) {
                return false;
            }
            for (int i = 0; i < LINE_SIGNS; i++) {
                int which = signs.takeOneOf("+-");
                if (which == NONE) {
                    return true;
                }
                if (!readProduct(signs, letters, depth) || !append(SUMS + which)) {
                    return false;
                }
            }
            return false;
        }

        private boolean readProduct(Signs signs, String letters, int depth) {
            if (!readThing(signs, letters, depth)) {
                return false;
            }
            for (int i = 0; i < LINE_SIGNS; i++) {
                int which = signs.takeOneOf("*/");
                if (which == NONE) {
                    return true;
                }
                if (!readThing(signs, letters, depth) || !append(PRODUCTS + which)) {
                    return false;
                }
            }
            return false;
        }

        private boolean readThing(Signs signs, String letters, int depth) {
            boolean negated = false;
            for (int i = 0; i < LINE_SIGNS && signs.take('-'); i++) {
                negated = !negated;
            }
            return readBareThing(signs, letters, depth) && (!negated || append(NEGATE));
        }

        private boolean readBareThing(Signs signs, String letters, int depth) {
            if (signs.isNext('(')) {
                return depth < DEEPEST && signs.take('(')
                        && readComparison(signs, letters, depth + 1) && signs.take(')');
            }
            int which = signs.takeOneOf(letters);
            if (which != NONE) {
                return append(NUMBERS + which);
            }
            int n = signs.number(3, 0, NUMBERS - 1);
            return n != NONE && append(n);
        }

        private boolean append(int c) {
            if (length >= code.length) {
                return false;
            }
            code[length] = c;
            length++;
            return true;
        }

        private int value(int[] things) {
            int top = -1;
            for (int i = 0; i < length; i++) {
                int c = code[i];
                if (c < THINGS) {
                    top++;
                    stack[top] = c < NUMBERS ? c : things[c - NUMBERS];
                } else if (c == NEGATE && top >= 0) {
                    stack[top] = -stack[top];
                } else if (top >= 1) {
                    top--;
                    stack[top] = operated(c, stack[top], stack[top + 1]);
                }
            }
            return top >= 0 ? stack[0] : 0;
        }

        private static int operated(int c, int a, int b) {
            switch (c) {
                case LESS:
                    return a < b ? 1 : 0;
                case LESS + 1:
                    return a > b ? 1 : 0;
                case LESS + 2:
                    return a == b ? 1 : 0;
                case SUMS:
                    return a + b;
                case SUMS + 1:
                    return a - b;
                case PRODUCTS:
                    return a * b;
                default:
                    return b == 0 ? 0 : a / b;
            }
        }
    }
}
