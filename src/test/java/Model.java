import java.math.BigInteger;
import java.util.ArrayList;
import java.util.List;

/**
 * The document once more, told as plainly and slowly as it can be, to hold the class against.
 * Refusals stand as the document tells them, the first one told first.
 */
final class Model {
    private static final int BAD = -2, STATE = -3, FULL = -4;
    private static final long NO = -4611686018427387904L;

    private final List<ModelLaw> laws = new ArrayList<>();
    private ModelBay bay = new ModelBay(laws);
    private ModelBay image;
    private StringBuilder tape = new StringBuilder();
    private final int[][] sheets = new int[4][];
    private final int[] sorts = new int[4];

    Model() {
        laws.add(new ModelLaw("reaches breath ; costs deep * 2 ; fades 3 ; "));
    }

    private static boolean in(int v, int least, int most) {
        return least <= v && v <= most;
    }

    private boolean isDiver(int p) {
        return in(p, 0, bay.divers.size() - 1);
    }

    // ---- casks, the sky, the law, divers

    int count(int what) {
        switch (what) {
            case 0: return bay.divers.size();
            case 1: return (int) bay.casks.stream().filter(cask -> cask.place == 0).count();
            case 2: return (int) bay.casks.stream().filter(cask -> cask.place == 1).count();
            case 3: return bay.hour;
            case 4: return laws.size();
            case 5: return bay.law;
            case 6: return tape.length();
            default: return BAD;
        }
    }

    int cask(int k, int what, int v) {
        if (!in(k, 0, 11)) {
            return -5;
        }
        if (!in(what, 0, 3) || !in(v, 0, what == 0 ? 5 : what == 3 ? 2 : 99)) {
            return -7;
        }
        int was = lies(k, what);
        ModelBay.Cask cask = bay.casks.get(k);
        switch (what) {
            case 0: cask.sort = v; break;
            case 1: cask.strong = v; break;
            case 2: cask.deep = v; break;
            default: cask.place = v;
        }
        return was;
    }

    int lies(int k, int what) {
        if (!in(k, 0, 11)) {
            return -5;
        }
        ModelBay.Cask cask = bay.casks.get(k);
        switch (what) {
            case 0: return cask.sort;
            case 1: return cask.strong;
            case 2: return cask.deep;
            case 3: return cask.place;
            default: return -7;
        }
    }

    int sky(int t, int v) {
        if (!in(t, 0, 6)) {
            return -5;
        }
        if (!in(v, 0, t == 6 ? 999 : 99)) {
            return -7;
        }
        int was = t == 6 ? bay.hour : bay.sky[t];
        if (t == 6) {
            bay.hour = v;
        } else {
            bay.sky[t] = v;
        }
        return was;
    }

    int feed(int n, int a, int b, int c, int d, int e) {
        int[] bytes = {a, b, c, d, e};
        for (int one : bytes) {
            if (!in(one, 0, 255)) {
                return BAD;
            }
        }
        if (!in(n, 1, 5)) {
            return BAD;
        }
        if (tape.length() + n > 160) {
            return FULL;
        }
        for (int i = 0; i < n; i++) {
            tape.append((char) bytes[i]);
        }
        return tape.length();
    }

    int text() {
        if (laws.size() == 6) {
            return FULL;
        }
        ModelLaw law = new ModelLaw(tape.toString());
        tape = new StringBuilder();
        if (law.fault != -1) {
            return -100 - law.fault;
        }
        laws.add(law);
        return laws.size() - 1;
    }

    int force(int t) {
        if (!in(t, 0, laws.size() - 1)) {
            return BAD;
        }
        int was = bay.law;
        bay.law = t;
        return was;
    }

    int asks(int part, int p, int of) {
        if (part == 2 && in(of, 0, 5)) {
            return bay.fades(of);
        }
        return in(part, 0, 1) && isDiver(p) && in(of, 0, 11) ? bay.says(part, p, of) : -1000;
    }

    int diver(int kindMore, int much) {
        if (!in(kindMore, 0, 59) || !in(much, 0, 99)) {
            return BAD;
        }
        if (bay.divers.size() == 6) {
            return FULL;
        }
        bay.divers.add(ModelBay.diver(kindMore / 10, kindMore % 10, much, 0));
        return bay.divers.size() - 1;
    }

    int put(int p, int v) {
        if (!isDiver(p)) {
            return -5;
        }
        if (!in(v, 0, 99)) {
            return -7;
        }
        int was = bay.divers.get(p).breath;
        bay.divers.get(p).breath = v;
        return was;
    }

    int told(int p, int what) {
        if (!isDiver(p)) {
            return -5;
        }
        ModelBay.Diver one = bay.divers.get(p);
        switch (what) {
            case 0: return one.breath;
            case 1: return one.brought;
            case 2: return one.kind;
            case 3: return one.more;
            case 4: return bay.canBits(p);
            case 5: return one.breathes();
            default: return -7;
        }
    }

    int dives(int p, int k, int what) {
        if (!isDiver(p) || !in(k, 0, 11)) {
            return -5;
        }
        switch (what) {
            case 0: return bay.reach(p, k);
            case 1: return bay.cost(p, k);
            case 2: return bay.can(p, k) ? 1 : 0;
            default: return -7;
        }
    }

    // ---- dives, opening, hours

    int dive(int p, int k) {
        if (!isDiver(p)) {
            return -5;
        }
        if (!in(k, 0, 11)) {
            return -6;
        }
        if (!bay.can(p, k)) {
            return STATE;
        }
        bay.dive(p, k);
        return bay.divers.get(p).breath;
    }

    int open(int k) {
        if (!in(k, 0, 11)) {
            return -6;
        }
        if (bay.casks.get(k).place != 1) {
            return STATE;
        }
        bay.open(k);
        return bay.sky[bay.casks.get(k).sort];
    }

    int hour() {
        if (bay.hour == 999) {
            return STATE;
        }
        bay.hour();
        return bay.main();
    }

    int bay(int what) {
        return in(what, 0, 7) ? bay.tells(what) : -1000;
    }

    int run(int n, int what) {
        if (!in(n, 0, 40)) {
            return -1000;
        }
        ModelBay then = bay.copied().hours(n);
        for (int p = 0; p < bay.divers.size(); p++) {
            if (what == 10 + p) {
                return then.divers.get(p).breath;
            }
        }
        return in(what, 0, 7) ? then.tells(what) : -1000;
    }

    int stills() {
        for (int n = 0; n <= 60; n++) {
            if (bay.copied().hours(n).main() == -1) {
                return n;
            }
        }
        return -1;
    }

    // ---- rows of dives

    private int refusedRow(int s, int p) {
        int refused = refusedSheet(s, 40);
        if (refused != 0) {
            return refused;
        }
        for (int k : sheets[s]) {
            if (!in(k, 0, 11)) {
                return BAD;
            }
        }
        return isDiver(p) ? 0 : -5;
    }

    int row(int s, int p, int what) {
        int refused = refusedRow(s, p);
        if (refused != 0) {
            return refused;
        }
        ModelBay then = bay.copied();
        int brings = then.row(sheets[s], p);
        switch (what) {
            case 0: return then.quay();
            case 1: return brings;
            case 2: return then.divers.get(p).breath;
            case 3: return sheets[s].length - brings;
            default: return -7;
        }
    }

    int salvage(int s, int p) {
        int refused = refusedRow(s, p);
        if (refused != 0) {
            return refused;
        }
        return bay.hour + sheets[s].length > 999 ? STATE : bay.row(sheets[s], p);
    }

    // ---- what is best

    int which(int n, int what) {
        if (!in(n, 0, 40) || !in(what, 0, 1)) {
            return -1000;
        }
        int best = -1;
        int most = bay.copied().hours(n).fair();
        for (int k = 0; k < 12; k++) {
            ModelBay then = bay.copied();
            if (then.casks.get(k).place == 1) {
                then.open(k);
                int fair = then.hours(n).fair();
                best = fair > most ? k : best;
                most = Math.max(most, fair);
            }
        }
        return what == 0 ? best : most;
    }

    int cargo(int room, int what) {
        if (!in(room, 0, 999) || !in(what, 0, 1)) {
            return BAD;
        }
        int[] best = {0, 0};
        load(11, room, 0, 0, best);
        return best[what];
    }

    /** Takes the last CASK or leaves it, leaving first: so lesser bits come ahead of greater. */
    private void load(int k, int room, int bits, int strong, int[] best) {
        if (k < 0) {
            if (strong > best[1]) {
                best[0] = bits;
                best[1] = strong;
            }
            return;
        }
        load(k - 1, room, bits, strong, best);
        ModelBay.Cask cask = bay.casks.get(k);
        if (cask.place == 1 && cask.deep <= room) {
            load(k - 1, room - cask.deep, bits | 1 << k, strong + cask.strong, best);
        }
    }

    int last(int p, int k, int others) {
        if (!isDiver(p)) {
            return -5;
        }
        if (!in(k, 0, 11)) {
            return -6;
        }
        return in(others, 0, 3) ? last(bay, p, k, others) : -7;
    }

    private static int last(ModelBay now, int p, int k, int others) {
        int most = -1;
        for (int other = 0; other < 12; other++) {
            if ((other == k) == (others == 0) && now.can(p, other)) {
                ModelBay then = now.copied();
                then.dive(p, other);
                int left = others == 0 ? then.divers.get(p).breath : last(then, p, k, others - 1);
                most = Math.max(most, left);
            }
        }
        return most;
    }

    int best(int what) {
        if (!in(what, 0, 1)) {
            return BAD;
        }
        int[] best = {-1, 0};
        for (int p = bay.divers.size() - 1; p >= 0; p--) {
            int many = Integer.bitCount(bay.canBits(p));
            if (many > 0 && many >= best[1]) {
                best = new int[] {p, many};
            }
        }
        return best[what];
    }

    long share(int t, int part) {
        int all = 0;
        for (int much : bay.sky) {
            all += much;
        }
        return !in(t, 0, 5) || !in(part, 0, 1) || all == 0 ? NO : lowest(bay.sky[t], all, part);
    }

    private static long lowest(int above, int below, int part) {
        int divisor = BigInteger.valueOf(above).gcd(BigInteger.valueOf(below)).intValue();
        return (part == 0 ? above : below) / divisor;
    }

    // ---- told hours, told dives

    private int refusedSheet(int s, int most) {
        if (!in(s, 0, 3)) {
            return BAD;
        }
        if (sheets[s] == null) {
            return -11;
        }
        return sheets[s].length > most ? BAD : 0;
    }

    private int refusedHours(int s, int t) {
        int refused = refusedSheet(s, 20);
        return refused != 0 ? refused : in(t, 0, 5) ? 0 : -5;
    }

    int judge(int s, int t) {
        int refused = refusedHours(s, t);
        return refused != 0 ? refused : bay.judged(sheets[s], t);
    }

    int opened(int s, int t) {
        int refused = refusedHours(s, t);
        if (refused != 0) {
            return refused;
        }
        int bits = 0;
        for (int k = 0; k < 12; k++) {
            ModelBay then = bay.copied();
            if (then.casks.get(k).place == 1) {
                then.open(k);
                bits += then.judged(sheets[s], t) == -1 ? 1 << k : 0;
            }
        }
        return bits;
    }

    int skies(int s, int t, int what) {
        int refused = refusedHours(s, t);
        if (refused != 0) {
            return refused;
        }
        List<Integer> found = new ArrayList<>();
        for (int much = 0; much <= 99; much++) {
            ModelBay then = bay.copied();
            then.sky[t] = much;
            if (then.judged(sheets[s], t) == -1) {
                found.add(much);
            }
        }
        return manyOrLeast(found, what);
    }

    private static int manyOrLeast(List<Integer> found, int what) {
        switch (what) {
            case 0: return found.size();
            case 1: return found.isEmpty() ? -1 : found.get(0);
            default: return -7;
        }
    }

    int whose(int s) {
        int refused = refusedSheet(s, 20);
        if (refused != 0) {
            return refused;
        }
        int bits = 0;
        for (int t = 0; t < 6; t++) {
            bits += bay.judged(sheets[s], t) == -1 ? 1 << t : 0;
        }
        return bits;
    }

    int laws(int s, int t) {
        int refused = refusedHours(s, t);
        if (refused != 0) {
            return refused;
        }
        int bits = 0;
        for (int law = 0; law < laws.size(); law++) {
            ModelBay then = bay.copied();
            then.law = law;
            bits += then.judged(sheets[s], t) == -1 ? 1 << law : 0;
        }
        return bits;
    }

    int film(int s, int t, int n) {
        if (!in(s, 0, 3)) {
            return BAD;
        }
        if (!in(t, 0, 5)) {
            return -5;
        }
        if (!in(n, 0, 20)) {
            return -7;
        }
        sheet(s, 0, n);
        for (int i = 0; i < n; i++) {
            sheets[s][i] = bay.copied().hours(i + 1).sky[t];
        }
        return n;
    }

    int kinds(int s, int p, int of) {
        int refused = refusedSheet(s, 12);
        if (refused != 0) {
            return refused;
        }
        if (!isDiver(p)) {
            return -5;
        }
        if (!in(of, 0, 1)) {
            return -7;
        }
        ModelBay.Diver one = bay.divers.get(p);
        int bits = 0;
        for (int v = 0; v < (of == 0 ? 6 : 10); v++) {
            ModelBay then = bay.copied();
            then.divers.set(p, ModelBay.diver(of == 0 ? v : one.kind, of == 0 ? one.more : v,
                one.breath, one.brought));
            bits += then.isSo(sheets[s], p) ? 1 << v : 0;
        }
        return bits;
    }

    int breaths(int s, int p, int what) {
        int refused = refusedSheet(s, 12);
        if (refused != 0) {
            return refused;
        }
        if (!isDiver(p)) {
            return -5;
        }
        List<Integer> found = new ArrayList<>();
        for (int much = 0; much <= 99; much++) {
            ModelBay then = bay.copied();
            then.divers.get(p).breath = much;
            if (then.isSo(sheets[s], p)) {
                found.add(much);
            }
        }
        return manyOrLeast(found, what);
    }

    // ---- storms by lots

    int drawn(int seed, int what) {
        if (!in(seed, 0, 99999) || !in(what, 0, 1)) {
            return -1000;
        }
        ModelBay then = bay.copied().storm(seed);
        return what == 0 ? then.main() : then.fair();
    }

    long odds(int seed, int seeds, int t, int part) {
        if (!in(seed, 0, 99999) || !in(seeds, 1, 40) || !in(t, 0, 5) || !in(part, 0, 1)) {
            return NO;
        }
        int times = 0;
        for (int i = 0; i < seeds; i++) {
            times += bay.copied().storm(seed + i).main() == t ? 1 : 0;
        }
        return lowest(times, seeds, part);
    }

    int image() {
        image = bay.copied();
        return image.divers.size();
    }

    int back() {
        if (image == null) {
            return STATE;
        }
        bay = image.copied();
        return bay.divers.size();
    }

    // ---- the host

    int sheet(int s, int sort, int n) {
        if (!in(s, 0, 3) || !in(sort, -1, 2) || sort != -1 && n > 40) {
            return BAD;
        }
        if (sort != -1 && n < 0) {
            return -14;
        }
        sheets[s] = sort == -1 ? null : new int[n];
        sorts[s] = sort;
        return 1;
    }

    int cell(int s, int i, int v) {
        int refused = refusedSheet(s, 40);
        if (refused != 0) {
            return refused;
        }
        if (!in(i, 0, sheets[s].length - 1)) {
            return -12;
        }
        sheets[s][i] = sorts[s] == 0 ? (byte) v : sorts[s] == 1 ? (short) v : v;
        return 1;
    }

    int copy(int s, int i, int other, int j, int n) {
        if (!in(s, 0, 3) || !in(other, 0, 3)) {
            return BAD;
        }
        if (sheets[s] == null || sheets[other] == null) {
            return -11;
        }
        if (sorts[s] != sorts[other]) {
            return -13;
        }
        if (n < 0 || i < 0 || j < 0 || (long) i + n > sheets[s].length
                || (long) j + n > sheets[other].length) {
            return -12;
        }
        int[] were = sheets[s].clone();
        for (int m = 0; m < n; m++) {
            sheets[other][j + m] = were[i + m];
        }
        return n;
    }

    int diversBy(int s, int sort, int from, int n) {
        if (!in(s, 0, 3) || !in(sort, 0, 2) || !in(n, 0, 6)) {
            return BAD;
        }
        if (sheets[s] == null) {
            return -11;
        }
        if (sorts[s] != sort) {
            return -13;
        }
        int came = 0;
        for (int m = 0; m < n; m++) {
            long at = from + 2L * m;
            if (at < 0 || at + 1 >= sheets[s].length) {
                return -12;
            }
            came += diver(sheets[s][(int) at], sheets[s][(int) at + 1]) >= 0 ? 1 : 0;
        }
        return came;
    }

    int taken(int i, int kind) {
        if (!in(kind, 0, 6)) {
            return BAD;
        }
        if (!in(i, 0, 17)) {
            return -12;
        }
        if (i >= 6) {
            ModelBay.Cask cask = bay.casks.get(i - 6);
            return cask.place == 2 ? -11 : kind == 6 ? cask.strong : -13;
        }
        if (!isDiver(i)) {
            return -11;
        }
        Class<?> wanted = kind == 6 ? Model.class : ModelBay.diver(kind, 0, 0, 0).getClass();
        return wanted.isInstance(bay.divers.get(i)) ? i : -13;
    }
}
