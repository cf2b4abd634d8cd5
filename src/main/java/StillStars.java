import java.util.Arrays;

/**
 * A mirror that bends by what spots of light tell.
 *
 * The words in capitals in the comments are the document's. Every array is made once, with the
 * object, and used again: no call makes an object. The small classes below hold one matter each and
 * trust their numbers; the public methods test every number before they hand it on.
 */
public final class StillStars {
    public static final int BAD = -1, NOT = -2, FULL = -3, NONE = -4, NULL = -11, CAST = -12, INDEX = -13, SIZE = -14;

    /** No refusal: lies apart from all of them. */
    private static final int GRANTED = 0;
    /** Taken from a refusal where the answer itself may be a small number below 0. */
    private static final int FAR = 10000;
    private static final long FARTHEST = 1L << 62;

    private static final int MOST_SPOTS = 8, MOST_PARTS = 5, LIGHTS = 16, SIDE = 4, BRIGHTEST = 255;
    private static final int MOST_REST = 3000, FIRST_REST = 1500;
    private static final int MOST_NUMBER = 9, MOST_BY = 99, MOST_CHANGE = 999, MOST_POKES = 9;
    private static final int MOST_WHOLE = 9999;
    private static final int MOST_FRAMES = 100, LOGGED = 30;
    private static final int MOST_TERMS = 5, MOST_TERM = 50, MOST_GAIN = 100;
    private static final int LAYERS = 3, RING = 32, MOST_CELL = 99, MOST_WIND = 31, LAST_FRAME = 9999;
    private static final int SHEETS = 4, LANES = 3, BYTES = 0, SHORTS = 1, MOST_ITEMS = 40;

    private static final int DARK = 0, LEAST = 1, FEW = 2, GAIN = 3, LIMIT = 4, NEAR = 5, STEP = 6;
    private static final int OPEN = 0, SEEK = 1, HELD = 2, LOST = 3;

    private final Settings settings = new Settings();
    private final Sheets sheets = new Sheets();
    private final Spots spots = new Spots();
    private final Table table = new Table();
    private final Parts parts = new Parts();
    private final Bends bends = new Bends();
    private final Fit fit = new Fit();
    private final Keeper keeper = new Keeper();
    private final Book book = new Book();
    private final Loop loop = new Loop();
    private final Layers layers = new Layers();

    public StillStars() {
    }

    // ---- 1 spots, the table

    public int mirror(int s, int a) {
        if (!within(s, 1, MOST_SPOTS) || !within(a, 1, MOST_PARTS)) {
            return BAD;
        }
        spots.renew(s);
        parts.renew(a);
        table.renew();
        keeper.renew();
        book.renew();
        return 1;
    }

    public int light(int spot, int i, int v) {
        if (!isSpot(spot) || !within(i, 0, LIGHTS - 1) || !within(v, 0, BRIGHTEST)) {
            return BAD;
        }
        return spots.swapLight(spot, i, v);
    }

    public int board(int spot, int sheet, int lane, int from) {
        if (!isSpot(spot)) {
            return BAD;
        }
        int refused = sheets.refusal(sheet, lane, from, LIGHTS);
        if (refused != GRANTED) {
            return refused;
        }
        if (lane != BYTES && !sheets.allWithin(sheet, from, LIGHTS, 0, BRIGHTEST)) {
            return NOT;
        }
        for (int i = 0; i < LIGHTS; i++) {
            spots.swapLight(spot, i, sheets.at(sheet, from + i) & BRIGHTEST);
        }
        return 1;
    }

    public int set(int what, int v) {
        if (!settings.takes(what, v)) {
            return BAD - FAR;
        }
        return settings.swap(what, v);
    }

    public int rest(int spot, int v) {
        if (!isSpot(spot) || !within(v, 0, MOST_REST)) {
            return BAD;
        }
        return spots.swapRest(spot, v);
    }

    public int spot(int spot, int what) {
        if (!isSpot(spot) || !within(what, 0, 3)) {
            return BAD - FAR;
        }
        spots.measure(settings.get(DARK), settings.get(LEAST));
        boolean lost = spots.isLost(spot);
        switch (what) {
            case 0:
                return spots.lightOf(spot);
            case 1:
                return lost ? 1 : 0;
            case 2:
                return lost ? NONE : spots.middleOf(spot);
            default:
                return lost ? NOT - FAR : spots.slopeOf(spot);
        }
    }

    public int table(int spot, int part, int v) {
        if (!isSpot(spot) || !isPart(part) || !within(v, -MOST_NUMBER, MOST_NUMBER)) {
            return BAD - FAR;
        }
        return table.swap(spot, part, v);
    }

    public int poke(int part, int by, int sheet, int lane, int from) {
        if (!isPart(part) || !within(by, 1, MOST_BY)) {
            return BAD;
        }
        int refused = sheets.refusal(sheet, lane, from, spots.count());
        if (refused != GRANTED) {
            return refused;
        }
        if (!sheets.allWithin(sheet, from, spots.count(), -MOST_CHANGE, MOST_CHANGE)) {
            return NOT;
        }
        if (table.pokesOf(part) >= MOST_POKES) {
            return FULL;
        }
        table.begin(part, by);
        for (int s = 0; s < spots.count(); s++) {
            table.add(s, part, by, sheets.at(sheet, from + s));
        }
        return table.pokesOf(part);
    }

    public int told(int spot, int part, int what) {
        if (!isSpot(spot) || !isPart(part) || !within(what, 0, 1)) {
            return BAD - FAR;
        }
        if (what == 0) {
            return table.number(spot, part);
        }
        return table.pokesOf(part) == 0 ? NONE - FAR : table.doubt(spot, part);
    }

    // ---- 2 bends

    public int dead(int part, boolean is) {
        if (!isPart(part) || part == 0) {
            return BAD;
        }
        return parts.swapDead(part, is) ? 1 : 0;
    }

    public int seen() {
        findBends();
        return bends.seenBits();
    }

    public long bend(int part, int what) {
        if (!isPart(part) || !within(what, 0, 1)) {
            return BAD - FARTHEST;
        }
        findBends();
        return what == 0 ? bends.above(part) : bends.below(part);
    }

    public int whole(int part) {
        if (!isPart(part)) {
            return BAD - FAR;
        }
        findBends();
        return bends.rounded(part);
    }

    public int nearest(int part) {
        if (!isPart(part)) {
            return BAD - FAR;
        }
        findBends();
        fitWholes();
        return fit.unitsOf(part);
    }

    public long off() {
        findBends();
        fitWholes();
        return fit.squares();
    }

    // ---- 3 the loop

    public int start() {
        if (keeper.now() != OPEN) {
            return NOT;
        }
        keeper.enter(SEEK);
        return 1;
    }

    public int stop() {
        int was = keeper.now();
        keeper.enter(OPEN);
        return was;
    }

    public int frames(int n) {
        if (!within(n, 1, MOST_FRAMES)) {
            return BAD;
        }
        // The BOARDS stay as they are for all n FRAMES, and with them the LOST ones and the BENDS.
        findBends();
        boolean few = spots.lostOnes() <= settings.get(FEW);
        // A row that has come to rest stays there: nothing that it depends on changes here.
        boolean moving = true;
        for (int i = 0; i < n; i++) {
            int found = keeper.now();
            if (keeper.pass(few)) {
                parts.level();
            }
            if (found == HELD && few && moving) {
                moving = moveUnits();
            }
            book.note(keeper.now(), spots.lostOnes(), parts.sum());
        }
        return keeper.now();
    }

    public int state(int i) {
        int count = parts.count();
        if (!within(i, 0, count + 2)) {
            return BAD - FAR;
        }
        if (i < count) {
            return parts.unitsOf(i);
        }
        if (i == count) {
            return parts.tip();
        }
        return i == count + 1 ? keeper.now() : keeper.done();
    }

    public int units(int part, int v) {
        int limit = settings.get(LIMIT);
        if (!isPart(part) || !within(v, -limit, limit)) {
            return BAD - FAR;
        }
        return parts.swapUnits(part, v);
    }

    public int shed() {
        return parts.giveToTip();
    }

    public int log(int i, int what) {
        if (!book.has(i) || !within(what, 0, 2)) {
            return BAD - FAR;
        }
        return book.read(i, what);
    }

    public int loop(int which, int sheet, int lane, int from, int n) {
        if (!within(which, 0, 1) || !within(n, 1, MOST_TERMS)) {
            return BAD;
        }
        int refused = sheets.refusal(sheet, lane, from, n);
        if (refused != GRANTED) {
            return refused;
        }
        if (!sheets.allWithin(sheet, from, n, -MOST_TERM, MOST_TERM)) {
            return NOT;
        }
        for (int i = 0; i < MOST_TERMS; i++) {
            loop.setTerm(which, i, i < n ? sheets.at(sheet, from + i) : 0);
        }
        return n;
    }

    public int steady(int gain) {
        if (!within(gain, 0, MOST_GAIN)) {
            return BAD;
        }
        return loop.isSteady(gain) ? 1 : 0;
    }

    public int unsteady(int from, int to) {
        if (!within(from, 0, MOST_GAIN) || !within(to, from, MOST_GAIN)) {
            return BAD;
        }
        for (int gain = from; gain <= to; gain++) {
            if (!loop.isSteady(gain)) {
                return gain;
            }
        }
        return NONE;
    }

    // ---- 4 layers

    public int cell(int layer, int i, int v) {
        if (!isLayer(layer) || !within(i, 0, RING - 1) || !within(v, -MOST_CELL, MOST_CELL)) {
            return BAD - FAR;
        }
        return layers.swapCell(layer, i, v);
    }

    public int wind(int layer, int v) {
        if (!isLayer(layer) || !within(v, -MOST_WIND, MOST_WIND)) {
            return BAD - FAR;
        }
        return layers.swapWind(layer, v);
    }

    public int foretell(int spot, int frame) {
        if (!isSpot(spot) || !within(frame, 0, LAST_FRAME)) {
            return BAD - FAR;
        }
        return layers.foretold(settings.get(STEP) * spot, frame);
    }

    public int guess(int a, int b, int lane) {
        int refused = earlier(sheets.refusal(a, lane, 0, RING), sheets.refusal(b, lane, 0, RING));
        if (refused != GRANTED) {
            return refused;
        }
        int best = 0;
        long least = sheets.apart(a, b, 0);
        for (int shift = 1; shift < RING; shift++) {
            long apart = sheets.apart(a, b, shift);
            if (apart < least) {
                least = apart;
                best = shift;
            }
        }
        return best;
    }

    // ---- 5 sheets 0 .. 3: nothing (at first), or a row of a LANE: 0 bytes, 1 shorts, 2 ints, of 0 to 40 items

    public int sheet(int sheet, int lane, int n) {
        if (!isSheet(sheet) || !isLane(lane) || n > MOST_ITEMS) {
            return BAD;
        }
        if (n < 0) {
            return SIZE;
        }
        sheets.lay(sheet, lane, n);
        return n;
    }

    public int drop(int sheet) {
        if (!isSheet(sheet)) {
            return BAD;
        }
        if (!sheets.holds(sheet)) {
            return NULL;
        }
        return sheets.takeAway(sheet);
    }

    public int item(int sheet, int lane, int i, int v) {
        int refused = sheets.refusal(sheet, lane, i, 1);
        if (refused != GRANTED) {
            return refused;
        }
        sheets.put(sheet, i, v);
        return 1;
    }

    public int layer(int layer, int sheet, int lane, int from) {
        if (!isLayer(layer)) {
            return BAD;
        }
        int refused = sheets.refusal(sheet, lane, from, RING);
        if (refused != GRANTED) {
            return refused;
        }
        if (!sheets.allWithin(sheet, from, RING, -MOST_CELL, MOST_CELL)) {
            return NOT;
        }
        for (int i = 0; i < RING; i++) {
            layers.swapCell(layer, i, sheets.at(sheet, from + i));
        }
        return RING;
    }

    // ---- what the calls share

    private boolean isSpot(int spot) {
        return within(spot, 0, spots.count() - 1);
    }

    private boolean isPart(int part) {
        return within(part, 0, parts.count() - 1);
    }

    private void findBends() {
        spots.measure(settings.get(DARK), settings.get(LEAST));
        bends.find(spots, table, parts);
    }

    private void fitWholes() {
        for (int p = 0; p < parts.count(); p++) {
            fit.wish(p, bends.rounded(p));
        }
        fit.find(parts, settings.get(LIMIT), settings.get(NEAR));
    }

    /** One FRAME's bending in HELD; whether any UNITS became others. */
    private boolean moveUnits() {
        for (int p = 0; p < parts.count(); p++) {
            fit.wish(p, parts.unitsOf(p) - settings.get(GAIN) * bends.rounded(p) / 100);
        }
        fit.find(parts, settings.get(LIMIT), settings.get(NEAR));
        boolean moved = false;
        for (int p = 0; p < parts.count(); p++) {
            int now = fit.unitsOf(p);
            if (parts.swapUnits(p, now) != now) {
                moved = true;
            }
        }
        return moved;
    }

    private static boolean isLayer(int layer) {
        return within(layer, 0, LAYERS - 1);
    }

    private static boolean isSheet(int sheet) {
        return within(sheet, 0, SHEETS - 1);
    }

    private static boolean isLane(int lane) {
        return within(lane, 0, LANES - 1);
    }

    private static boolean within(int v, int low, int high) {
        return v >= low && v <= high;
    }

    private static int held(int v, int low, int high) {
        return Math.max(low, Math.min(high, v));
    }

    /** Every division by a number that calls have told goes through here, so that none is by 0. */
    private static int cut(int sum, int by) {
        return by > 0 ? sum / by : 0;
    }

    /** Of two refusals the one that calls name first: BAD, NULL, CAST, INDEX fall in this order. */
    private static int earlier(int one, int other) {
        if (one == GRANTED) {
            return other;
        }
        return other == GRANTED ? one : Math.max(one, other);
    }

    /** The numbers that set() tells, each with its span. */
    private static final class Settings {
        private static final int[] LOW = {0, 1, 0, 0, 1, 0, 1};
        private static final int[] HIGH = {255, 4080, 8, 200, 60, 120, 8};

        private final int[] values = {20, 50, 1, 50, 40, 30, 4};

        boolean takes(int what, int v) {
            return within(what, DARK, STEP) && within(v, LOW[what], HIGH[what]);
        }

        int swap(int what, int v) {
            int was = values[what];
            values[what] = v;
            return was;
        }

        int get(int what) {
            return values[what];
        }
    }

    /** SHEETS: a row of each is always there, so that a new one costs nothing; its length says what it holds. */
    private static final class Sheets {
        private static final int MISSING = -1;

        private final int[] lanes = new int[SHEETS];
        private final int[] lengths = {MISSING, MISSING, MISSING, MISSING};
        private final int[] items = new int[SHEETS * MOST_ITEMS];

        boolean holds(int sheet) {
            return lengths[sheet] != MISSING;
        }

        void lay(int sheet, int lane, int n) {
            lanes[sheet] = lane;
            lengths[sheet] = n;
            for (int i = 0; i < n; i++) {
                items[sheet * MOST_ITEMS + i] = 0;
            }
        }

        int takeAway(int sheet) {
            int had = lengths[sheet];
            lengths[sheet] = MISSING;
            return had;
        }

        /** Why n items from one on can't be had of a SHEET taken as a row of a LANE, or GRANTED. */
        int refusal(int sheet, int lane, int from, int n) {
            if (!isSheet(sheet) || !isLane(lane)) {
                return BAD;
            }
            if (!holds(sheet)) {
                return NULL;
            }
            if (lanes[sheet] != lane) {
                return CAST;
            }
            // from + n could run over; the length less n can't.
            return from < 0 || from > lengths[sheet] - n ? INDEX : GRANTED;
        }

        int at(int sheet, int i) {
            return items[sheet * MOST_ITEMS + i];
        }

        void put(int sheet, int i, int v) {
            int lane = lanes[sheet];
            items[sheet * MOST_ITEMS + i] = lane == BYTES ? (byte) v : lane == SHORTS ? (short) v : v;
        }

        boolean allWithin(int sheet, int from, int n, int low, int high) {
            for (int i = 0; i < n; i++) {
                if (!within(at(sheet, from + i), low, high)) {
                    return false;
                }
            }
            return true;
        }

        /** How far two rows are apart, the other one shifted round; ints may lie further apart than an int tells. */
        long apart(int a, int b, int shift) {
            long sum = 0;
            for (int i = 0; i < RING; i++) {
                sum += Math.abs((long) at(a, i) - at(b, (i + shift) % RING));
            }
            return sum;
        }
    }

    /** SPOTS with their BOARDS; what measure() found of them stands until the next one. */
    private static final class Spots {
        private final int[] lights = new int[MOST_SPOTS * LIGHTS];
        private final int[] rests = new int[MOST_SPOTS];
        private final int[] sums = new int[MOST_SPOTS];
        private final int[] middles = new int[MOST_SPOTS];
        private final boolean[] lost = new boolean[MOST_SPOTS];
        private int count = 4;
        private int lostOnes = 0;

        Spots() {
            Arrays.fill(rests, FIRST_REST);
        }

        void renew(int spots) {
            count = spots;
            Arrays.fill(lights, 0);
            Arrays.fill(rests, FIRST_REST);
        }

        int count() {
            return count;
        }

        int swapLight(int spot, int i, int v) {
            int was = lights[spot * LIGHTS + i];
            lights[spot * LIGHTS + i] = v;
            return was;
        }

        int swapRest(int spot, int v) {
            int was = rests[spot];
            rests[spot] = v;
            return was;
        }

        void measure(int dark, int least) {
            lostOnes = 0;
            for (int s = 0; s < count; s++) {
                measureOne(s, dark);
                lost[s] = sums[s] < least;
                lostOnes += lost[s] ? 1 : 0;
            }
        }

        private void measureOne(int spot, int dark) {
            int sum = 0;
            int weighed = 0;
            for (int i = 0; i < LIGHTS; i++) {
                int light = Math.max(0, lights[spot * LIGHTS + i] - dark);
                sum += light;
                weighed += light * (spot % 2 == 0 ? i % SIDE : i / SIDE);
            }
            sums[spot] = sum;
            middles[spot] = cut(1000 * weighed, sum);
        }

        int lostOnes() {
            return lostOnes;
        }

        boolean isLost(int spot) {
            return lost[spot];
        }

        int lightOf(int spot) {
            return sums[spot];
        }

        int middleOf(int spot) {
            return middles[spot];
        }

        int slopeOf(int spot) {
            return middles[spot] - rests[spot];
        }
    }

    /** THE TABLE, and of each PART's POKES just what its numbers and DOUBT need. */
    private static final class Table {
        private final int[] numbers = new int[MOST_SPOTS * MOST_PARTS];
        private final int[] changes = new int[MOST_SPOTS * MOST_PARTS];
        private final int[] greatest = new int[MOST_SPOTS * MOST_PARTS];
        private final int[] least = new int[MOST_SPOTS * MOST_PARTS];
        private final int[] bys = new int[MOST_PARTS];
        private final int[] pokes = new int[MOST_PARTS];

        void renew() {
            Arrays.fill(numbers, 0);
            Arrays.fill(pokes, 0);
        }

        int pokesOf(int part) {
            return pokes[part];
        }

        int number(int spot, int part) {
            return numbers[spot * MOST_PARTS + part];
        }

        int doubt(int spot, int part) {
            int at = spot * MOST_PARTS + part;
            return greatest[at] - least[at];
        }

        int swap(int spot, int part, int v) {
            int was = numbers[spot * MOST_PARTS + part];
            numbers[spot * MOST_PARTS + part] = v;
            pokes[part] = 0;
            return was;
        }

        /** One more POKE of a PART; its changes follow by add(), one for each SPOT. */
        void begin(int part, int by) {
            bys[part] = (pokes[part] == 0 ? 0 : bys[part]) + by;
            pokes[part]++;
        }

        void add(int spot, int part, int by, int change) {
            int at = spot * MOST_PARTS + part;
            int each = cut(change, by);
            boolean first = pokes[part] == 1;
            changes[at] = (first ? 0 : changes[at]) + change;
            greatest[at] = first ? each : Math.max(greatest[at], each);
            least[at] = first ? each : Math.min(least[at], each);
            numbers[at] = held(cut(changes[at], bys[part]), -MOST_NUMBER, MOST_NUMBER);
        }
    }

    /** PARTS of the mirror: which are DEAD, their UNITS, and the TIP. */
    private static final class Parts {
        private final boolean[] dead = new boolean[MOST_PARTS];
        private final int[] units = new int[MOST_PARTS];
        private int count = 2;
        private int tip = 0;

        void renew(int a) {
            count = a;
            tip = 0;
            for (int p = 0; p < MOST_PARTS; p++) {
                dead[p] = false;
            }
            level();
        }

        int count() {
            return count;
        }

        int tip() {
            return tip;
        }

        boolean isDead(int part) {
            return dead[part];
        }

        boolean swapDead(int part, boolean is) {
            boolean was = dead[part];
            dead[part] = is;
            return was;
        }

        int unitsOf(int part) {
            return units[part];
        }

        int swapUnits(int part, int v) {
            int was = units[part];
            units[part] = v;
            return was;
        }

        void level() {
            Arrays.fill(units, 0);
        }

        int sum() {
            int sum = 0;
            for (int p = 0; p < count; p++) {
                sum += units[p];
            }
            return sum;
        }

        int giveToTip() {
            int share = cut(sum(), count);
            for (int p = 0; p < count; p++) {
                units[p] -= share;
            }
            tip += share;
            return share;
        }
    }

    /**
     * BENDS by least squares, exactly: Cramer's rule on the normal equations. COLUMNS are at most
     * 5, of 8 numbers; by Hadamard's bound the determinants stay below 2^47, those with the SLOPES
     * in place of a COLUMN below 2^56. Only sums and products lead to them, so that a long tells
     * them exactly even where a number on the way should run over.
     */
    private static final class Bends {
        private static final int WIDTH = MOST_PARTS + 1;

        private final int[] columns = new int[MOST_PARTS * MOST_SPOTS];
        private final int[] slopes = new int[MOST_SPOTS];
        private final int[] seenOnes = new int[MOST_PARTS];
        private final long[] grid = new long[MOST_PARTS * WIDTH];
        private final long[] minors = new long[1 << WIDTH];
        private final long[] aboves = new long[MOST_PARTS];
        private final long[] belows = new long[MOST_PARTS];
        private final int[] wholes = new int[MOST_PARTS];
        private int seenCount = 0;

        int seenBits() {
            int bits = 0;
            for (int i = 0; i < seenCount; i++) {
                bits |= 1 << seenOnes[i];
            }
            return bits;
        }

        long above(int part) {
            return aboves[part];
        }

        long below(int part) {
            return belows[part];
        }

        int rounded(int part) {
            return wholes[part];
        }

        void find(Spots spots, Table table, Parts parts) {
            takeColumns(spots, table, parts);
            takeSlopes(spots);
            seenCount = 0;
            for (int p = 0; p < parts.count(); p++) {
                setBend(p, 0L, 1L);
                if (!parts.isDead(p)) {
                    considerPart(p);
                }
            }
            solve();
            for (int p = 1; p < parts.count(); p++) {
                if (parts.isDead(p)) {
                    setBend(p, aboves[p - 1], belows[p - 1]);
                }
            }
        }

        /** A LOST SPOT's row of 0 weighs nothing, just as if it were not there. */
        private void takeColumns(Spots spots, Table table, Parts parts) {
            Arrays.fill(columns, 0);
            int live = 0;
            for (int p = 0; p < parts.count(); p++) {
                live = parts.isDead(p) ? live : p;
                for (int s = 0; s < spots.count(); s++) {
                    columns[live * MOST_SPOTS + s] += spots.isLost(s) ? 0 : table.number(s, p);
                }
            }
        }

        private void takeSlopes(Spots spots) {
            Arrays.fill(slopes, 0);
            for (int s = 0; s < spots.count(); s++) {
                slopes[s] = spots.isLost(s) ? 0 : spots.slopeOf(s);
            }
        }

        /** A COLUMN is no sum of multiples of the SEEN ones just if Gram's determinant with it is not 0. */
        private void considerPart(int part) {
            seenOnes[seenCount] = part;
            for (int i = 0; i <= seenCount; i++) {
                long product = productOf(part, seenOnes[i]);
                grid[i * WIDTH + seenCount] = product;
                grid[seenCount * WIDTH + i] = product;
            }
            takeMinors(seenCount + 1);
            if (minors[(1 << (seenCount + 1)) - 1] != 0L) {
                seenCount++;
            }
        }

        private long productOf(int one, int other) {
            long sum = 0L;
            for (int s = 0; s < MOST_SPOTS; s++) {
                sum += columns[one * MOST_SPOTS + s] * columns[other * MOST_SPOTS + s];
            }
            return sum;
        }

        private long productWithSlopes(int part) {
            long sum = 0L;
            for (int s = 0; s < MOST_SPOTS; s++) {
                sum += columns[part * MOST_SPOTS + s] * slopes[s];
            }
            return sum;
        }

        private void solve() {
            for (int i = 0; i < seenCount; i++) {
                grid[i * WIDTH + seenCount] = productWithSlopes(seenOnes[i]);
            }
            takeMinors(seenCount + 1);
            int all = (1 << (seenCount + 1)) - 1;
            long below = minors[all >> 1];
            for (int i = 0; i < seenCount; i++) {
                // The SLOPES stand last, not at place i: each place that they pass turns the sign.
                long above = minors[all ^ (1 << i)];
                setBend(seenOnes[i], (seenCount - 1 - i) % 2 == 0 ? above : -above, below);
            }
        }

        /** For each set of columns of the grid the determinant of these with as many rows from the first on. */
        private void takeMinors(int width) {
            minors[0] = 1L;
            for (int set = 1; set < 1 << width; set++) {
                int row = Integer.bitCount(set) - 1;
                minors[set] = row < MOST_PARTS ? expand(set, row, width) : 0L;
            }
        }

        /** Along the last row, whose last product bears no minus. */
        private long expand(int set, int row, int width) {
            long sum = 0L;
            boolean minus = false;
            for (int j = width - 1; j >= 0; j--) {
                if ((set & (1 << j)) != 0) {
                    long product = grid[row * WIDTH + j] * minors[set ^ (1 << j)];
                    sum += minus ? -product : product;
                    minus = !minus;
                }
            }
            return sum;
        }

        private void setBend(int part, long above, long below) {
            long shared = commonDivisor(Math.abs(above), below);
            aboves[part] = shared > 0L ? above / shared : 0L;
            belows[part] = shared > 0L ? below / shared : 1L;
            wholes[part] = nearestWhole(aboves[part], belows[part]);
        }

        /** Euclid takes at most 91 steps with longs. */
        private static long commonDivisor(long a, long b) {
            long one = a;
            long other = b;
            for (int i = 0; i < 100 && other != 0L; i++) {
                long left = one % other;
                one = other;
                other = left;
            }
            return one;
        }

        private static int nearestWhole(long above, long below) {
            if (below <= 0L) {
                return 0;
            }
            long size = Math.abs(above);
            long left = size % below;
            long whole = size / below + (left >= below - left ? 1L : 0L);
            int bounded = (int) Math.min(whole, MOST_WHOLE);
            return above < 0L ? -bounded : bounded;
        }
    }

    /**
     * The row of ALLOWED units NEAREST to a wished one. What a PART and all behind it cost is
     * reckoned from the last PART on, for each units that the PART may have. That cost is a convex
     * function of these units (squares, and what is best within a window, are), so the best units in
     * a window are the best of all, held to the window; of two like ones the lesser.
     */
    private static final class Fit {
        private static final int MOST_LIMIT = 60;
        private static final int SPAN = 2 * MOST_LIMIT + 1;

        private final int[] wished = new int[MOST_PARTS];
        private final long[] costs = new long[MOST_PARTS * SPAN];
        private final int[] cheapest = new int[MOST_PARTS];
        private final int[] row = new int[MOST_PARTS];
        private int limit = 0;
        private int near = 0;
        private long squares = 0L;

        void wish(int part, int units) {
            wished[part] = units;
        }

        int unitsOf(int part) {
            return row[part];
        }

        long squares() {
            return squares;
        }

        void find(Parts parts, int most, int apart) {
            limit = held(most, 0, MOST_LIMIT);
            near = apart;
            for (int p = parts.count() - 1; p >= 0; p--) {
                weigh(p, parts);
            }
            row[0] = cheapest[0];
            squares = costs[place(0, row[0])];
            for (int p = 1; p < parts.count(); p++) {
                row[p] = behind(p, row[p - 1], parts);
            }
        }

        private void weigh(int part, Parts parts) {
            cheapest[part] = -limit;
            for (int u = -limit; u <= limit; u++) {
                long off = (long) u - wished[part];
                int next = part + 1;
                long later = next < parts.count() ? costs[place(next, behind(next, u, parts))] : 0L;
                costs[place(part, u)] = off * off + later;
                if (costs[place(part, u)] < costs[place(part, cheapest[part])]) {
                    cheapest[part] = u;
                }
            }
        }

        /** The best units of a PART, where the one ahead of it has some. */
        private int behind(int part, int ahead, Parts parts) {
            if (parts.isDead(part)) {
                return ahead;
            }
            return held(cheapest[part], Math.max(-limit, ahead - near), Math.min(limit, ahead + near));
        }

        private static int place(int part, int units) {
            return part * SPAN + MOST_LIMIT + units;
        }
    }

    /** STATE from FRAME to FRAME. */
    private static final class Keeper {
        private static final int GOOD_TO_HOLD = 3, GOOD_TO_HOLD_AGAIN = 5, LOST_TO_OPEN = 20;

        private int state = OPEN;
        private int done = 0;
        /** FRAMES one behind the other in this STATE with few LOST. */
        private int good = 0;
        /** FRAMES that found it LOST since it was. */
        private int foundLost = 0;

        void renew() {
            enter(OPEN);
            done = 0;
        }

        int now() {
            return state;
        }

        int done() {
            return done;
        }

        void enter(int next) {
            state = next;
            good = 0;
            foundLost = 0;
        }

        /** A FRAME; whether it gave up, so that all UNITS are 0. */
        boolean pass(boolean few) {
            done++;
            good = few ? good + 1 : 0;
            switch (state) {
                case SEEK:
                    if (good >= GOOD_TO_HOLD) {
                        enter(HELD);
                    }
                    return false;
                case HELD:
                    if (!few) {
                        enter(LOST);
                    }
                    return false;
                case LOST:
                    return search();
                default:
                    return false;
            }
        }

        private boolean search() {
            foundLost++;
            if (good >= GOOD_TO_HOLD_AGAIN) {
                enter(HELD);
                return false;
            }
            if (foundLost < LOST_TO_OPEN) {
                return false;
            }
            enter(OPEN);
            return true;
        }
    }

    /** THE LOG: a ring of lines of three numbers. */
    private static final class Book {
        private static final int NUMBERS = 3;

        private final int[] lines = new int[LOGGED * NUMBERS];
        private int kept = 0;
        private int next = 0;

        void renew() {
            kept = 0;
            next = 0;
        }

        void note(int state, int lost, int units) {
            lines[next * NUMBERS] = state;
            lines[next * NUMBERS + 1] = lost;
            lines[next * NUMBERS + 2] = units;
            next = (next + 1) % LOGGED;
            kept = Math.min(kept + 1, LOGGED);
        }

        boolean has(int i) {
            return within(i, 0, kept - 1);
        }

        int read(int i, int what) {
            return lines[Math.floorMod(next - 1 - i, LOGGED) * NUMBERS + what];
        }
    }

    /** A LOOP, kept STEADY or not by the test of Schur and Cohn, with whole numbers alone. */
    private static final class Loop {
        private static final int LAST = MOST_TERMS - 1;

        /** D, and N behind it. */
        private final int[] terms = {1, 0, 0, 0, 0, 1, 0, 0, 0, 0};
        private final long[] mixed = new long[MOST_TERMS];
        private final long[] lowered = new long[MOST_TERMS];

        void setTerm(int which, int power, int v) {
            terms[which * MOST_TERMS + power] = v;
        }

        boolean isSteady(int gain) {
            for (int i = 0; i < MOST_TERMS; i++) {
                mixed[i] = 100L * terms[i] + (long) gain * terms[MOST_TERMS + i];
            }
            int degree = LAST;
            while (degree >= 0 && mixed[degree] == 0L) {
                degree--;
            }
            return degree >= 0 && zerosWithin(degree);
        }

        /**
         * The numbers grow from 10^4 at degree 4 to 8 * 10^16 at degree 2; lowering that would be
         * too much for a long, so degree 2 is judged as it stands.
         */
        private boolean zerosWithin(int highest) {
            int degree = highest;
            for (; degree > 2; degree--) {
                if (!lastIsLess(degree)) {
                    return false;
                }
                lower(degree);
            }
            if (degree == 2) {
                return lastIsLess(2) && Math.abs(mixed[1]) < Math.abs(mixed[2] + mixed[0]);
            }
            return degree == 0 || lastIsLess(degree);
        }

        /** The product of all zeros is smaller than 1. */
        private boolean lastIsLess(int degree) {
            return Math.abs(mixed[0]) < Math.abs(mixed[degree]);
        }

        /** A polynomial of one degree less that has all zeros within the ring just if this one has. */
        private void lower(int degree) {
            for (int i = 0; i < degree; i++) {
                lowered[i] = mixed[degree] * mixed[i + 1] - mixed[0] * mixed[degree - 1 - i];
            }
            System.arraycopy(lowered, 0, mixed, 0, degree);
        }
    }

    /** LAYERS of air. */
    private static final class Layers {
        private final int[] cells = new int[LAYERS * RING];
        private final int[] winds = new int[LAYERS];

        int swapCell(int layer, int i, int v) {
            int was = cells[layer * RING + i];
            cells[layer * RING + i] = v;
            return was;
        }

        int swapWind(int layer, int v) {
            int was = winds[layer];
            winds[layer] = v;
            return was;
        }

        int foretold(int place, int frame) {
            int sum = 0;
            for (int l = 0; l < LAYERS; l++) {
                int here = Math.floorMod(place + winds[l] * frame, RING);
                sum += cells[l * RING + (here + 1) % RING] - cells[l * RING + here];
            }
            return sum;
        }
    }
}
