import java.util.Arrays;

/**
 * Salvage of the sort of day it was: casks of weather in a wreck, the divers who bring them up,
 * and the weather over the bay once a cask is opened on the quay.
 *
 * Every row is made in a constructor and used again, so that no call makes an object.
 */
public final class SalvageOfDays {
    public static final int NONE = -1, BAD = -2, STATE = -3, FULL = -4;
    public static final long NO = -4611686018427387904L;

    // Refusals that the document tells by number alone.
    private static final int NO_SUCH = -5;
    private static final int NO_CASK = -6;
    private static final int NOT_SO = -7;
    private static final int NOTHING = -11;
    private static final int OUTSIDE = -12;
    private static final int UNLIKE = -13;
    private static final int BELOW_ZERO = -14;
    private static final int FAULTS = -100;
    private static final int UNKNOWN = -1000;

    private static final int SORTS = 6;
    private static final int CASKS = 12;
    private static final int DIVERS = 6;
    private static final int TEXTS = 6;
    private static final int SHEETS = 4;
    private static final int KINDS = 6;
    private static final int MORES = 10;
    private static final int MOST = 99;
    private static final int LAST_HOUR = 999;
    private static final int WRECK = 0, QUAY = 1, OPENED = 2;
    private static final int[] CASK_MOST = {5, 99, 99, 2};

    private static final int MAIN = 6, FAIR = 7;
    private static final int FIRST_BREATH = 10;
    private static final int RUN_HOURS = 40;
    private static final int STILL_HOURS = 60;
    private static final int TOLD_HOURS = 20;
    private static final int STORM_HOURS = 8;
    private static final int LAST_SEED = 99999;
    private static final int MOST_SEEDS = 40;
    private static final int LARGEST_ROOM = 999;
    private static final int MOST_OTHERS = 3;
    private static final int MOST_TOLD_DIVERS = 6;
    private static final String FIRST_LAW = "reaches breath ; costs deep * 2 ; fades 3 ; ";

    private final Tape tape = new Tape();
    private final Text[] texts = new Text[TEXTS];
    private int textCount;
    private final Sheet[] sheets = new Sheet[SHEETS];
    private final Scene truth;
    private final Scene thought;
    private final Scene kept;
    private boolean isKept;

    public SalvageOfDays() {
        for (int i = 0; i < TEXTS; i++) {
            texts[i] = new Text(i);
        }
        for (int s = 0; s < SHEETS; s++) {
            sheets[s] = new Sheet();
        }
        for (int i = 0; i < FIRST_LAW.length(); i++) {
            tape.add(FIRST_LAW.charAt(i));
        }
        tape.readInto(texts[0]);
        tape.clear();
        textCount = 1;
        truth = new Scene(texts[0]);
        thought = new Scene(texts[0]);
        kept = new Scene(texts[0]);
    }

    // ---- casks, the sky, the law, divers

    public int count(int what) {
        switch (what) {
            case 0: return truth.divers;
            case 1: return Integer.bitCount(truth.casksAt(WRECK));
            case 2: return Integer.bitCount(truth.casksAt(QUAY));
            case 3: return truth.hour;
            case 4: return textCount;
            case 5: return truth.law.number;
            case 6: return tape.size;
            default: return BAD;
        }
    }

    public int cask(int k, int what, int v) {
        if (!isCask(k)) {
            return NO_SUCH;
        }
        if (!isWithin(what, CASK_MOST.length - 1) || !isWithin(v, CASK_MOST[what])) {
            return NOT_SO;
        }
        int[] row = truth.caskRow(what);
        int was = row[k];
        row[k] = v;
        return was;
    }

    public int lies(int k, int what) {
        if (!isCask(k)) {
            return NO_SUCH;
        }
        return isWithin(what, CASK_MOST.length - 1) ? truth.caskRow(what)[k] : NOT_SO;
    }

    public int sky(int t, int v) {
        if (t == SORTS) {
            return setHour(v);
        }
        if (!isSort(t)) {
            return NO_SUCH;
        }
        if (!isWithin(v, MOST)) {
            return NOT_SO;
        }
        int was = truth.weather[t];
        truth.weather[t] = v;
        return was;
    }

    private int setHour(int v) {
        if (!isWithin(v, LAST_HOUR)) {
            return NOT_SO;
        }
        int was = truth.hour;
        truth.hour = v;
        return was;
    }

    public int feed(int n, int a, int b, int c, int d, int e) {
        if (n < 1 || n > 5 || !areBytes(a, b, c, d, e)) {
            return BAD;
        }
        if (!tape.hasRoom(n)) {
            return FULL;
        }
        tape.add(a);
        if (n > 1) {
            tape.add(b);
        }
        if (n > 2) {
            tape.add(c);
        }
        if (n > 3) {
            tape.add(d);
        }
        if (n > 4) {
            tape.add(e);
        }
        return tape.size;
    }

    private static boolean areBytes(int a, int b, int c, int d, int e) {
        return isWithin(a, 255) && isWithin(b, 255) && isWithin(c, 255)
            && isWithin(d, 255) && isWithin(e, 255);
    }

    public int text() {
        if (textCount >= TEXTS) {
            return FULL;
        }
        int fault = tape.readInto(texts[textCount]);
        tape.clear();
        if (fault >= 0) {
            return FAULTS - fault;
        }
        textCount++;
        return textCount - 1;
    }

    public int force(int t) {
        if (!isWithin(t, textCount - 1)) {
            return BAD;
        }
        int was = truth.law.number;
        truth.law = texts[t];
        return was;
    }

    public int asks(int part, int p, int of) {
        if (part == Text.FADES) {
            return isSort(of) ? truth.fading(of, truth.weather[of], truth.hour) : UNKNOWN;
        }
        if (!isDiver(p) || !isCask(of)) {
            return UNKNOWN;
        }
        if (part == Text.REACHES) {
            return truth.saidReach(p, of);
        }
        return part == Text.COSTS ? truth.saidCost(p, of) : UNKNOWN;
    }

    public int diver(int kindMore, int much) {
        if (!isWithin(kindMore, KINDS * MORES - 1) || !isWithin(much, MOST)) {
            return BAD;
        }
        if (truth.divers >= DIVERS) {
            return FULL;
        }
        return truth.comes(kindMore / MORES, kindMore % MORES, much);
    }

    public int put(int p, int v) {
        if (!isDiver(p)) {
            return NO_SUCH;
        }
        if (!isWithin(v, MOST)) {
            return NOT_SO;
        }
        int was = truth.breath[p];
        truth.breath[p] = v;
        return was;
    }

    public int told(int p, int what) {
        if (!isDiver(p)) {
            return NO_SUCH;
        }
        switch (what) {
            case 0: return truth.breath[p];
            case 1: return truth.brought[p];
            case 2: return truth.kind[p];
            case 3: return truth.more[p];
            case 4: return truth.casksFor(p);
            case 5: return Kinds.breathing(truth.kind[p], truth.more[p]);
            default: return NOT_SO;
        }
    }

    public int dives(int p, int k, int what) {
        if (!isDiver(p) || !isCask(k)) {
            return NO_SUCH;
        }
        switch (what) {
            case 0: return truth.reach(p, k);
            case 1: return truth.cost(p, k);
            case 2: return truth.can(p, k) ? 1 : 0;
            default: return NOT_SO;
        }
    }

    // ---- dives, opening, hours

    public int dive(int p, int k) {
        if (!isDiver(p)) {
            return NO_SUCH;
        }
        if (!isCask(k)) {
            return NO_CASK;
        }
        if (!truth.can(p, k)) {
            return STATE;
        }
        truth.bringUp(p, k);
        return truth.breath[p];
    }

    public int open(int k) {
        if (!isCask(k)) {
            return NO_CASK;
        }
        if (truth.place[k] != QUAY) {
            return STATE;
        }
        truth.letLoose(k);
        return truth.weather[truth.sort[k]];
    }

    public int hour() {
        if (truth.hour >= LAST_HOUR) {
            return STATE;
        }
        truth.passHours(1);
        return truth.mainSort();
    }

    public int bay(int what) {
        return isWithin(what, FAIR) ? truth.overBay(what) : UNKNOWN;
    }

    public int run(int n, int what) {
        boolean isOverBay = isWithin(what, FAIR);
        boolean isBreath = what >= FIRST_BREATH && isDiver(what - FIRST_BREATH);
        if (!isWithin(n, RUN_HOURS) || !isOverBay && !isBreath) {
            return UNKNOWN;
        }
        thought.becomes(truth);
        thought.passHours(n);
        return isOverBay ? thought.overBay(what) : thought.breath[what - FIRST_BREATH];
    }

    public int stills() {
        thought.becomes(truth);
        for (int n = 0; n <= STILL_HOURS; n++) {
            if (thought.mainSort() == NONE) {
                return n;
            }
            thought.passHours(1);
        }
        return NONE;
    }

    // ---- rows of dives

    public int row(int s, int p, int what) {
        int refusal = refusalOfRow(s, p);
        if (refusal != 0) {
            return refusal;
        }
        if (!isWithin(what, 3)) {
            return NOT_SO;
        }
        thought.becomes(truth);
        int broughtUp = thought.bringsInRow(sheets[s], p);
        switch (what) {
            case 0: return thought.casksAt(QUAY);
            case 1: return broughtUp;
            case 2: return thought.breath[p];
            default: return thought.hour - truth.hour;
        }
    }

    public int salvage(int s, int p) {
        int refusal = refusalOfRow(s, p);
        if (refusal != 0) {
            return refusal;
        }
        if (truth.hour + sheets[s].size > LAST_HOUR) {
            return STATE;
        }
        return truth.bringsInRow(sheets[s], p);
    }

    private int refusalOfRow(int s, int p) {
        int refusal = refusalOfSheet(s, Sheet.LONGEST);
        if (refusal != 0) {
            return refusal;
        }
        if (!sheets[s].tellsOnly(CASKS)) {
            return BAD;
        }
        return isDiver(p) ? 0 : NO_SUCH;
    }

    // ---- what is best

    public int which(int n, int what) {
        if (!isWithin(n, RUN_HOURS) || !isWithin(what, 1)) {
            return UNKNOWN;
        }
        int fairest = NONE;
        int most = fairBehind(n, NONE);
        for (int k = 0; k < CASKS; k++) {
            if (truth.place[k] == QUAY) {
                int fair = fairBehind(n, k);
                if (fair > most) {
                    most = fair;
                    fairest = k;
                }
            }
        }
        return what == 0 ? fairest : most;
    }

    /** FAIR behind n HOURS, were CASK k opened now (NONE: no CASK). */
    private int fairBehind(int n, int k) {
        thought.becomes(truth);
        if (isCask(k)) {
            thought.letLoose(k);
        }
        thought.passHours(n);
        return thought.fair();
    }

    public int cargo(int room, int what) {
        if (!isWithin(room, LARGEST_ROOM) || !isWithin(what, 1)) {
            return BAD;
        }
        int notOnQuay = ~truth.casksAt(QUAY);
        int bestSet = 0;
        int mostStrong = 0;
        // The numbers rise, so of like sets the least comes first and stays.
        for (int set = 1; set < 1 << CASKS; set++) {
            if ((set & notOnQuay) == 0 && Scene.sum(truth.deep, set) <= room) {
                int strong = Scene.sum(truth.strong, set);
                if (strong > mostStrong) {
                    mostStrong = strong;
                    bestSet = set;
                }
            }
        }
        return what == 0 ? bestSet : mostStrong;
    }

    public int last(int p, int k, int others) {
        if (!isDiver(p)) {
            return NO_SUCH;
        }
        if (!isCask(k)) {
            return NO_CASK;
        }
        if (!isWithin(others, MOST_OTHERS)) {
            return NOT_SO;
        }
        thought.becomes(truth);
        return mostLeft(thought, p, k, others);
    }

    /** Tries each way, and takes every try back; others, 3 at most, tells how deep it goes. */
    private static int mostLeft(Scene scene, int p, int k, int others) {
        if (others <= 0) {
            return scene.can(p, k) ? scene.breath[p] - scene.cost(p, k) : NONE;
        }
        int most = NONE;
        for (int other = 0; other < CASKS; other++) {
            if (other != k && scene.can(p, other)) {
                int breath = scene.breath[p];
                scene.bringUp(p, other);
                most = Math.max(most, mostLeft(scene, p, k, others - 1));
                scene.breath[p] = breath;
                scene.place[other] = WRECK;
            }
        }
        return most;
    }

    public int best(int what) {
        if (!isWithin(what, 1)) {
            return BAD;
        }
        int who = NONE;
        int most = 0;
        for (int p = 0; p < truth.divers; p++) {
            int many = Integer.bitCount(truth.casksFor(p));
            if (many > most) {
                most = many;
                who = p;
            }
        }
        return what == 0 ? who : most;
    }

    public long share(int t, int part) {
        if (!isSort(t) || !isWithin(part, 1)) {
            return NO;
        }
        int all = 0;
        for (int u = 0; u < SORTS; u++) {
            all += truth.weather[u];
        }
        return all == 0 ? NO : lowest(truth.weather[t], all, part);
    }

    // ---- told hours

    public int judge(int s, int t) {
        int refusal = refusalOfHours(s, t);
        return refusal != 0 ? refusal : truth.firstOtherwise(sheets[s], t);
    }

    public int opened(int s, int t) {
        int refusal = refusalOfHours(s, t);
        if (refusal != 0) {
            return refusal;
        }
        int bits = 0;
        for (int k = 0; k < CASKS; k++) {
            if (truth.place[k] == QUAY) {
                thought.becomes(truth);
                thought.letLoose(k);
                if (thought.firstOtherwise(sheets[s], t) == NONE) {
                    bits |= 1 << k;
                }
            }
        }
        return bits;
    }

    public int skies(int s, int t, int what) {
        int refusal = refusalOfHours(s, t);
        if (refusal != 0) {
            return refusal;
        }
        if (!isWithin(what, 1)) {
            return NOT_SO;
        }
        thought.becomes(truth);
        int many = 0;
        int least = NONE;
        for (int much = MOST; much >= 0; much--) {
            thought.weather[t] = much;
            if (thought.firstOtherwise(sheets[s], t) == NONE) {
                many++;
                least = much;
            }
        }
        return what == 0 ? many : least;
    }

    public int whose(int s) {
        int refusal = refusalOfSheet(s, TOLD_HOURS);
        if (refusal != 0) {
            return refusal;
        }
        int bits = 0;
        for (int t = 0; t < SORTS; t++) {
            if (truth.firstOtherwise(sheets[s], t) == NONE) {
                bits |= 1 << t;
            }
        }
        return bits;
    }

    public int laws(int s, int t) {
        int refusal = refusalOfHours(s, t);
        if (refusal != 0) {
            return refusal;
        }
        thought.becomes(truth);
        int bits = 0;
        for (int i = 0; i < textCount; i++) {
            thought.law = texts[i];
            if (thought.firstOtherwise(sheets[s], t) == NONE) {
                bits |= 1 << i;
            }
        }
        return bits;
    }

    public int film(int s, int t, int n) {
        if (!isSheet(s)) {
            return BAD;
        }
        if (!isSort(t)) {
            return NO_SUCH;
        }
        if (!isWithin(n, TOLD_HOURS)) {
            return NOT_SO;
        }
        sheets[s].becomes(Sheet.BYTES, n);
        int much = truth.weather[t];
        for (int i = 0; i < n; i++) {
            much = truth.faded(t, much, truth.hour + i);
            sheets[s].set(i, much);
        }
        return n;
    }

    private int refusalOfHours(int s, int t) {
        int refusal = refusalOfSheet(s, TOLD_HOURS);
        if (refusal != 0) {
            return refusal;
        }
        return isSort(t) ? 0 : NO_SUCH;
    }

    // ---- told dives

    public int kinds(int s, int p, int of) {
        int refusal = refusalOfTries(s, p, of);
        if (refusal != 0) {
            return refusal;
        }
        thought.becomes(truth);
        int[] row = of == 0 ? thought.kind : thought.more;
        int bits = 0;
        for (int v = 0; v < (of == 0 ? KINDS : MORES); v++) {
            row[p] = v;
            if (thought.isSoOfAll(sheets[s], p)) {
                bits |= 1 << v;
            }
        }
        return bits;
    }

    public int breaths(int s, int p, int what) {
        int refusal = refusalOfTries(s, p, what);
        if (refusal != 0) {
            return refusal;
        }
        thought.becomes(truth);
        int many = 0;
        int least = NONE;
        for (int much = MOST; much >= 0; much--) {
            thought.breath[p] = much;
            if (thought.isSoOfAll(sheets[s], p)) {
                many++;
                least = much;
            }
        }
        return what == 0 ? many : least;
    }

    private int refusalOfTries(int s, int p, int what) {
        int refusal = refusalOfSheet(s, CASKS);
        if (refusal != 0) {
            return refusal;
        }
        if (!isDiver(p)) {
            return NO_SUCH;
        }
        return isWithin(what, 1) ? 0 : NOT_SO;
    }

    // ---- storms by lots

    public int drawn(int seed, int what) {
        if (!isWithin(seed, LAST_SEED) || !isWithin(what, 1)) {
            return UNKNOWN;
        }
        storm(seed);
        return what == 0 ? thought.mainSort() : thought.fair();
    }

    public long odds(int seed, int seeds, int t, int part) {
        if (!isWithin(seed, LAST_SEED) || seeds < 1 || seeds > MOST_SEEDS) {
            return NO;
        }
        if (!isSort(t) || !isWithin(part, 1)) {
            return NO;
        }
        int times = 0;
        for (int i = 0; i < seeds; i++) {
            storm(seed + i);
            if (thought.mainSort() == t) {
                times++;
            }
        }
        return lowest(times, seeds, part);
    }

    private void storm(int seed) {
        thought.becomes(truth);
        long lot = seed + 1L;
        for (int i = 0; i < STORM_HOURS; i++) {
            lot = nextLot(lot);
            int t = (int) (lot % SORTS);
            lot = nextLot(lot);
            thought.blowUp(t, (int) (lot % 30));
            thought.passHours(1);
        }
    }

    private static long nextLot(long lot) {
        return lot * 48271L % 2147483647L;
    }

    public int image() {
        kept.becomes(truth);
        isKept = true;
        return kept.divers;
    }

    public int back() {
        if (!isKept) {
            return STATE;
        }
        truth.becomes(kept);
        return truth.divers;
    }

    // ---- the host

    public int sheet(int s, int sort, int n) {
        if (!isSheet(s) || sort < Sheet.MISSING || sort > Sheet.INTS) {
            return BAD;
        }
        if (sort == Sheet.MISSING) {
            sheets[s].becomes(Sheet.MISSING, 0);
            return 1;
        }
        if (n > Sheet.LONGEST) {
            return BAD;
        }
        if (n < 0) {
            return BELOW_ZERO;
        }
        sheets[s].becomes(sort, n);
        return 1;
    }

    public int cell(int s, int i, int v) {
        int refusal = refusalOfSheet(s, Sheet.LONGEST);
        if (refusal != 0) {
            return refusal;
        }
        return sheets[s].set(i, v) ? 1 : OUTSIDE;
    }

    public int copy(int s, int i, int other, int j, int n) {
        if (!isSheet(s) || !isSheet(other)) {
            return BAD;
        }
        Sheet from = sheets[s];
        Sheet to = sheets[other];
        if (from.sort == Sheet.MISSING || to.sort == Sheet.MISSING) {
            return NOTHING;
        }
        if (from.sort != to.sort) {
            return UNLIKE;
        }
        if (!from.holds(i, n) || !to.holds(j, n)) {
            return OUTSIDE;
        }
        System.arraycopy(from.cells, i, to.cells, j, n);
        return n;
    }

    public int diversBy(int s, int sort, int from, int n) {
        if (!isSheet(s) || !isWithin(sort, Sheet.INTS) || !isWithin(n, MOST_TOLD_DIVERS)) {
            return BAD;
        }
        Sheet row = sheets[s];
        if (row.sort == Sheet.MISSING) {
            return NOTHING;
        }
        if (row.sort != sort) {
            return UNLIKE;
        }
        int came = 0;
        int at = from;
        for (int i = 0; i < n; i++) {
            if (!row.holds(at, 2)) {
                return OUTSIDE;
            }
            if (diver(row.cells[at], row.cells[at + 1]) >= 0) {
                came++;
            }
            at += 2;
        }
        return came;
    }

    public int taken(int i, int kind) {
        if (!isWithin(kind, KINDS)) {
            return BAD;
        }
        if (!isWithin(i, DIVERS + CASKS - 1)) {
            return OUTSIDE;
        }
        boolean wantsCask = kind == KINDS;
        if (i < DIVERS) {
            if (!isDiver(i)) {
                return NOTHING;
            }
            return !wantsCask && Kinds.isOf(truth.kind[i], kind) ? i : UNLIKE;
        }
        int k = i - DIVERS;
        if (truth.place[k] == OPENED) {
            return NOTHING;
        }
        return wantsCask ? truth.strong[k] : UNLIKE;
    }

    // ---- what is such

    private static boolean isWithin(int v, int most) {
        return v >= 0 && v <= most;
    }

    private static boolean isSort(int t) {
        return isWithin(t, SORTS - 1);
    }

    private static boolean isCask(int k) {
        return isWithin(k, CASKS - 1);
    }

    private static boolean isSheet(int s) {
        return isWithin(s, SHEETS - 1);
    }

    private boolean isDiver(int p) {
        return isWithin(p, truth.divers - 1);
    }

    /** Why a SHEET of so many numbers at most is refused; 0: it isn't. */
    private int refusalOfSheet(int s, int most) {
        if (!isSheet(s)) {
            return BAD;
        }
        if (sheets[s].sort == Sheet.MISSING) {
            return NOTHING;
        }
        return sheets[s].size > most ? BAD : 0;
    }

    /** What stands above (part 0) or below the line; below is more than 0. */
    private static long lowest(int above, int below, int part) {
        int divisor = above;
        int rest = below;
        for (int i = 0; i < 64 && divisor != 0; i++) {
            int left = rest % divisor;
            rest = divisor;
            divisor = left;
        }
        int chosen = part == 0 ? above : below;
        return rest == 0 ? chosen : chosen / rest;
    }

    /** What a KIND makes of what the text says. */
    private static final class Kinds {
        private static final int BOY = 1, MASTER = 2, MATE = 3, WIDOW = 4, DROWNED = 5;
        private static final int[] ABOVE = {-1, 0, 0, 1, 2, 0};

        static boolean isOf(int kind, int wanted) {
            int at = kind;
            for (int i = 0; i < ABOVE.length && at >= 0 && at < ABOVE.length; i++) {
                if (at == wanted) {
                    return true;
                }
                at = ABOVE[at];
            }
            return false;
        }

        static int reach(int kind, int said, int more) {
            switch (kind) {
                case BOY: return said / 2 + more;
                case MASTER: return said + 10;
                case MATE: return said / 2 + more + more;
                case WIDOW: return more;
                case DROWNED: return 99;
                default: return said;
            }
        }

        static int cost(int kind, int said, int more, int sort, int hour) {
            switch (kind) {
                case MASTER:
                case WIDOW: return sort == 0 ? said / 2 : said + more;
                case MATE: return hour % 4 == 0 ? 0 : said;
                default: return said;
            }
        }

        static int breathing(int kind, int more) {
            switch (kind) {
                case BOY:
                case MATE: return 10;
                case WIDOW: return 5 + more;
                case DROWNED: return 0;
                default: return 5;
            }
        }
    }

    /** The bay with all that an image keeps: as it truly is, as it is in thought, as it was. */
    private static final class Scene {
        final int[] weather = new int[SORTS];
        final int[] sort = new int[CASKS];
        final int[] strong = new int[CASKS];
        final int[] deep = new int[CASKS];
        final int[] place = new int[CASKS];
        final int[] kind = new int[DIVERS];
        final int[] more = new int[DIVERS];
        final int[] breath = new int[DIVERS];
        final int[] brought = new int[DIVERS];
        int divers;
        int hour;
        Text law;

        Scene(Text first) {
            law = first;
            for (int k = 0; k < CASKS; k++) {
                sort[k] = k % SORTS;
                strong[k] = 20;
                deep[k] = 3 * k;
            }
        }

        void becomes(Scene other) {
            System.arraycopy(other.weather, 0, weather, 0, SORTS);
            System.arraycopy(other.sort, 0, sort, 0, CASKS);
            System.arraycopy(other.strong, 0, strong, 0, CASKS);
            System.arraycopy(other.deep, 0, deep, 0, CASKS);
            System.arraycopy(other.place, 0, place, 0, CASKS);
            System.arraycopy(other.kind, 0, kind, 0, DIVERS);
            System.arraycopy(other.more, 0, more, 0, DIVERS);
            System.arraycopy(other.breath, 0, breath, 0, DIVERS);
            System.arraycopy(other.brought, 0, brought, 0, DIVERS);
            divers = other.divers;
            hour = other.hour;
            law = other.law;
        }

        int[] caskRow(int what) {
            switch (what) {
                case 0: return sort;
                case 1: return strong;
                case 2: return deep;
                default: return place;
            }
        }

        int casksAt(int where) {
            int bits = 0;
            for (int k = 0; k < CASKS; k++) {
                if (place[k] == where) {
                    bits |= 1 << k;
                }
            }
            return bits;
        }

        static int sum(int[] row, int set) {
            int all = 0;
            for (int k = 0; k < row.length; k++) {
                if ((set >> k & 1) != 0) {
                    all += row[k];
                }
            }
            return all;
        }

        int comes(int ofKind, int ofMore, int much) {
            int p = divers;
            if (p >= DIVERS) {
                return FULL;
            }
            kind[p] = ofKind;
            more[p] = ofMore;
            breath[p] = much;
            brought[p] = 0;
            divers++;
            return p;
        }

        int saidReach(int p, int k) {
            return law.says(Text.REACHES, breath[p], deep[k], strong[k], sort[k], hour, more[p]);
        }

        int saidCost(int p, int k) {
            return law.says(Text.COSTS, breath[p], deep[k], strong[k], sort[k], hour, more[p]);
        }

        int reach(int p, int k) {
            return Kinds.reach(kind[p], saidReach(p, k), more[p]);
        }

        int cost(int p, int k) {
            return Kinds.cost(kind[p], saidCost(p, k), more[p], sort[k], hour);
        }

        boolean can(int p, int k) {
            return place[k] == WRECK && reach(p, k) >= deep[k] && cost(p, k) <= breath[p];
        }

        int casksFor(int p) {
            int bits = 0;
            for (int k = 0; k < CASKS; k++) {
                if (can(p, k)) {
                    bits |= 1 << k;
                }
            }
            return bits;
        }

        boolean isSoOfAll(Sheet told, int p) {
            for (int k = 0; k < told.size && k < CASKS; k++) {
                if (told.cells[k] != (can(p, k) ? 1 : 0)) {
                    return false;
                }
            }
            return true;
        }

        void bringUp(int p, int k) {
            breath[p] -= cost(p, k);
            place[k] = QUAY;
            brought[p]++;
        }

        int bringsInRow(Sheet told, int p) {
            int many = 0;
            for (int i = 0; i < told.size; i++) {
                int k = told.cells[i];
                if (isCask(k) && can(p, k)) {
                    bringUp(p, k);
                    many++;
                } else {
                    passHours(1);
                }
            }
            return many;
        }

        void letLoose(int k) {
            blowUp(sort[k], strong[k]);
            place[k] = OPENED;
        }

        void blowUp(int t, int much) {
            weather[t] = Math.min(MOST, weather[t] + much);
        }

        int fading(int t, int much, int atHour) {
            return law.says(Text.FADES, 0, 0, much, t, atHour, 0);
        }

        int faded(int t, int much, int atHour) {
            return Math.max(0, much - fading(t, much, atHour));
        }

        void passHours(int n) {
            for (int i = 0; i < n; i++) {
                for (int t = 0; t < SORTS; t++) {
                    weather[t] = faded(t, weather[t], hour);
                }
                for (int p = 0; p < divers && p < DIVERS; p++) {
                    breath[p] = Math.min(MOST, breath[p] + Kinds.breathing(kind[p], more[p]));
                }
                hour++;
            }
        }

        int firstOtherwise(Sheet told, int t) {
            int much = weather[t];
            for (int i = 0; i < told.size; i++) {
                much = faded(t, much, hour + i);
                if (told.cells[i] != much) {
                    return i;
                }
            }
            return NONE;
        }

        int mainSort() {
            int found = NONE;
            int most = 0;
            for (int t = 0; t < SORTS; t++) {
                if (weather[t] > most) {
                    most = weather[t];
                    found = t;
                }
            }
            return found;
        }

        int fair() {
            return weather[0] + weather[3] - weather[2] - 2 * weather[5];
        }

        int overBay(int what) {
            if (what == MAIN) {
                return mainSort();
            }
            return isSort(what) ? weather[what] : fair();
        }
    }

    /** A row of numbers of the host's, or none. */
    private static final class Sheet {
        static final int MISSING = -1, BYTES = 0, SHORTS = 1, INTS = 2;
        static final int LONGEST = 40;
        final int[] cells = new int[LONGEST];
        int sort = MISSING;
        int size;

        void becomes(int ofSort, int n) {
            Arrays.fill(cells, 0);
            sort = ofSort;
            size = n;
        }

        boolean set(int i, int v) {
            if (!holds(i, 1)) {
                return false;
            }
            cells[i] = sort == BYTES ? (byte) v : sort == SHORTS ? (short) v : v;
            return true;
        }

        /** Whether n numbers from i on lie inside; size less n can't wrap, n not being below 0. */
        boolean holds(int i, int n) {
            return i >= 0 && n >= 0 && i <= size - n;
        }

        boolean tellsOnly(int below) {
            for (int i = 0; i < size; i++) {
                if (cells[i] < 0 || cells[i] >= below) {
                    return false;
                }
            }
            return true;
        }
    }

    /** A text as steps for a stack: a number from 0 on is put there, one below 0 is a symbol's. */
    private static final class Text {
        static final int REACHES = 0, COSTS = 1, FADES = 2, PARTS = 3;
        final int number;
        private final int[] steps = new int[Tape.LONGEST];
        private int stepCount;
        private final int[] ends = new int[PARTS];
        private final int[] named = new int[Tape.NAMES];
        // Five open signs, and five operators waiting inside each, ask for 31 places at most.
        private final int[] stack = new int[40];

        Text(int itsNumber) {
            number = itsNumber;
        }

        void clear() {
            stepCount = 0;
        }

        void add(int step) {
            if (stepCount < steps.length) {
                steps[stepCount] = step;
                stepCount++;
            }
        }

        void endPart(int part) {
            if (part >= 0 && part < PARTS) {
                ends[part] = stepCount;
            }
        }

        int says(int part, int breath, int deep, int strong, int sort, int hour, int more) {
            named[0] = breath;
            named[1] = deep;
            named[2] = strong;
            named[3] = sort;
            named[4] = hour;
            named[5] = more;
            if (part < REACHES || part > FADES) {
                return 0;
            }
            int top = 0;
            for (int i = part == REACHES ? 0 : ends[part - 1]; i < ends[part]; i++) {
                int symbol = -steps[i];
                if (symbol <= 0 && top < stack.length) {
                    stack[top] = -symbol;
                    top++;
                } else if (Tape.isName(symbol) && top < stack.length) {
                    stack[top] = named[symbol - Tape.FIRST_NAME];
                    top++;
                } else if (symbol == Tape.NOT && top > 0) {
                    stack[top - 1] = stack[top - 1] == 0 ? 1 : 0;
                } else if (symbol == Tape.NEGATE && top > 0) {
                    stack[top - 1] = -stack[top - 1];
                } else if (top > 1) {
                    top--;
                    stack[top - 1] = joined(symbol, stack[top - 1], stack[top]);
                }
            }
            return Math.max(0, Math.min(MOST, stack[0]));
        }

        private static int joined(int symbol, int left, int right) {
            switch (symbol) {
                case '+': return left + right;
                case '-': return left - right;
                case '*': return left * right;
                case '<': return left < right ? 1 : 0;
                case '=': return left == right ? 1 : 0;
                case Tape.AND: return left != 0 && right != 0 ? 1 : 0;
                default: return left != 0 || right != 0 ? 1 : 0;
            }
        }
    }

    /**
     * The tape, and the reading of a text from it. Reading stops where it looks at a token that
     * can't stand there, so the place of that token is the place of the fault.
     */
    private static final class Tape {
        static final int LONGEST = 160;
        static final int NAMES = 6;
        // Signs are their own symbols, so these lie above every byte; words have theirs in the
        // order of WORDS. NEGATE is no token's: it tells a - ahead of a ONE from one between two.
        static final int END = 256, WRONG = 257, NUMBER = 258, NEGATE = 259;
        static final int KEY = 260, AND = 263, OR = 264, NOT = 265, FIRST_NAME = 266;
        private static final int MOST_OPEN = 5;
        private static final int MOST_DIGITS = 4;
        private static final String WORDS =
            "reaches costs fades and or not breath deep strong sort hour more ";

        private final int[] bytes = new int[LONGEST];
        int size;
        private int at;
        private int place;
        private int symbol;
        private int numberRead;
        private Text made;

        boolean hasRoom(int n) {
            return n <= LONGEST - size;
        }

        void add(int b) {
            if (size < LONGEST) {
                bytes[size] = b;
                size++;
            }
        }

        void clear() {
            size = 0;
        }

        static boolean isName(int symbol) {
            return symbol >= FIRST_NAME && symbol < FIRST_NAME + NAMES;
        }

        /** The place of the fault; NONE: there is none. */
        int readInto(Text empty) {
            made = empty;
            made.clear();
            at = 0;
            next();
            return readsParts() ? NONE : place;
        }

        private boolean readsParts() {
            for (int part = 0; part < Text.PARTS; part++) {
                if (!passes(KEY + part) || !readsOr(0) || !passes(';')) {
                    return false;
                }
                made.endPart(part);
            }
            return symbol == END;
        }

        private boolean passes(int wanted) {
            if (symbol != wanted) {
                return false;
            }
            next();
            return true;
        }

        private boolean readsOr(int open) {
            boolean isGood = readsAnd(open);
            for (int i = 0; i < LONGEST && isGood && symbol == OR; i++) {
                next();
                isGood = readsAnd(open);
                made.add(-OR);
            }
            return isGood;
        }

        private boolean readsAnd(int open) {
            boolean isGood = readsNot(open);
            for (int i = 0; i < LONGEST && isGood && symbol == AND; i++) {
                next();
                isGood = readsNot(open);
                made.add(-AND);
            }
            return isGood;
        }

        private boolean readsNot(int open) {
            if (symbol == NOT) {
                return open < MOST_OPEN && readsNotBehindNot(open + 1);
            }
            if (!readsSum(open)) {
                return false;
            }
            int sign = symbol;
            if (sign != '<' && sign != '=') {
                return true;
            }
            next();
            boolean isGood = readsSum(open);
            made.add(-sign);
            return isGood;
        }

        private boolean readsNotBehindNot(int open) {
            next();
            boolean isGood = readsNot(open);
            made.add(-NOT);
            return isGood;
        }

        private boolean readsSum(int open) {
            boolean isGood = readsTerm(open);
            for (int i = 0; i < LONGEST && isGood && (symbol == '+' || symbol == '-'); i++) {
                int sign = symbol;
                next();
                isGood = readsTerm(open);
                made.add(-sign);
            }
            return isGood;
        }

        private boolean readsTerm(int open) {
            boolean isGood = readsOne(open);
            for (int i = 0; i < LONGEST && isGood && symbol == '*'; i++) {
                next();
                isGood = readsOne(open);
                made.add(-'*');
            }
            return isGood;
        }

        private boolean readsOne(int open) {
            if (symbol == NUMBER || isName(symbol)) {
                made.add(symbol == NUMBER ? numberRead : -symbol);
                next();
                return true;
            }
            if (open >= MOST_OPEN) {
                return false;
            }
            if (symbol == '-') {
                return readsOneBehindMinus(open + 1);
            }
            return passes('(') && readsOr(open + 1) && passes(')');
        }

        private boolean readsOneBehindMinus(int open) {
            next();
            boolean isGood = readsOne(open);
            made.add(-NEGATE);
            return isGood;
        }

        private void next() {
            for (; at < size && isBlank(bytes[at]); at++) {
                continue;
            }
            place = at;
            if (at >= size) {
                symbol = END;
            } else if (isLetter(bytes[at])) {
                nextWord();
            } else if (isDigit(bytes[at])) {
                nextNumber();
            } else {
                symbol = isSign(bytes[at]) ? bytes[at] : WRONG;
                at++;
            }
        }

        private void nextWord() {
            for (; at < size && isLetter(bytes[at]); at++) {
                continue;
            }
            symbol = WRONG;
            int start = 0;
            int order = 0;
            for (int i = 0; i < WORDS.length(); i++) {
                if (WORDS.charAt(i) == ' ') {
                    if (spells(start, i)) {
                        symbol = KEY + order;
                    }
                    start = i + 1;
                    order++;
                }
            }
        }

        /** Whether the word just passed is the one that WORDS has from start till end. */
        private boolean spells(int start, int end) {
            if (at - place != end - start) {
                return false;
            }
            for (int i = 0; i < end - start; i++) {
                if (bytes[place + i] != WORDS.charAt(start + i)) {
                    return false;
                }
            }
            return true;
        }

        private void nextNumber() {
            numberRead = 0;
            for (; at < size && isDigit(bytes[at]); at++) {
                numberRead = numberRead * 10 + bytes[at] - '0';
            }
            symbol = at - place > MOST_DIGITS ? WRONG : NUMBER;
        }

        private static boolean isBlank(int b) {
            return b == 32 || b == 10;
        }

        private static boolean isLetter(int b) {
            return b >= 'a' && b <= 'z';
        }

        private static boolean isDigit(int b) {
            return b >= '0' && b <= '9';
        }

        private static boolean isSign(int b) {
            return b >= '(' && b <= '-' && b != ',' || b == ';' || b == '<' || b == '=';
        }
    }
}
