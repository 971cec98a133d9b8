import java.util.Random;

/**
 * Runs by chance, the same each time, of as many calls as leave room to ask for all in the end
 * within 512: no call throws, and what is asked or refused changes nothing. A twin that gets only
 * the calls that change something answers them all alike.
 */
public final class RandomRunsTest {
    private static final Due DUE = new Due("RandomRunsTest");
    private static final int RUNS = 450, CALLS = 320, KINDS_OF_CALLS = 42, FIRST_ASKED = 18;
    private static final int TEXT = 3, DIVERS_BY = 17;
    private static final int[] FAR = {
        Integer.MIN_VALUE, Integer.MIN_VALUE + 1, -1000, -100, -2, -1, 6, 7, 10, 11, 12, 20, 21,
        40, 41, 59, 60, 61, 99, 100, 160, 255, 256, 999, 1000, 99999, 100000,
        Integer.MAX_VALUE - 1, Integer.MAX_VALUE
    };
    private static final int[] MOSTS = {1, 3, 5, 11, 19, 99};
    private static final String[] EXPRESSIONS = {
        "breath", "deep*2", "3", "hour-2", "strong*(strong<9)", "sort+more", "not(sort=2)*7",
        "(hour<4)*9+1", "-(-deep)", "9-more", "1 or 2", "99", "strong", "hour*hour*hour"
    };
    private static int came, refused;

    public static void main(String[] args) {
        for (int seed = 0; seed < RUNS; seed++) {
            run(new Random(seed), seed);
        }
        DUE.isTrue("enough came: " + came, came > RUNS * CALLS / 5);
        DUE.isTrue("enough was refused: " + refused, refused > RUNS * CALLS / 20);
        DUE.end();
    }

    private static void run(Random random, int seed) {
        SalvageOfDays x = new SalvageOfDays();
        SalvageOfDays twin = new SalvageOfDays();
        int done = 0;
        for (int i = 0; i < 3; i++) {
            String law = law(random);
            Due.text(x, law);
            Due.text(twin, law);
            done += (law.length() + 4) / 5 + 1;
        }
        int[] a = new int[6];
        for (; done < CALLS; done++) {
            int which = random.nextInt(KINDS_OF_CALLS);
            for (int i = 0; i < a.length; i++) {
                a[i] = number(random);
            }
            long got = call(x, which, a);
            boolean isRefused = got < 0 && which != TEXT && which != DIVERS_BY
                || got == SalvageOfDays.FULL;
            came += got >= 0 ? 1 : 0;
            refused += isRefused ? 1 : 0;
            if (which < FIRST_ASKED && (!isRefused || got == -1)) {
                DUE.is("run " + seed + ", twin's call " + which, call(twin, which, a), got);
            }
        }
        DUE.isTrue("run " + seed + " ends like its twin", Due.all(x).equals(Due.all(twin)));
        sheetsAreAlike(x, twin, seed);
    }

    private static String law(Random random) {
        String law = "reaches " + EXPRESSIONS[random.nextInt(EXPRESSIONS.length)];
        law += ";costs " + EXPRESSIONS[random.nextInt(EXPRESSIONS.length)];
        return law + ";fades " + EXPRESSIONS[random.nextInt(EXPRESSIONS.length)] + ";";
    }

    private static int number(Random random) {
        if (random.nextInt(25) == 0) {
            return FAR[random.nextInt(FAR.length)];
        }
        return random.nextInt(MOSTS[random.nextInt(MOSTS.length)] + 1);
    }

    private static void sheetsAreAlike(SalvageOfDays x, SalvageOfDays twin, int seed) {
        for (int s = 0; s < 4; s++) {
            for (int what = 0; what < 6; what++) {
                DUE.is("run " + seed + " judge", x.judge(s, what), twin.judge(s, what));
                DUE.is("run " + seed + " skies", x.skies(s, what, 1), twin.skies(s, what, 1));
                DUE.is("run " + seed + " row", x.row(s, 0, what), twin.row(s, 0, what));
                DUE.is("run " + seed + " breaths", x.breaths(s, 0, 0), twin.breaths(s, 0, 0));
            }
        }
    }

    private static long call(SalvageOfDays x, int which, int[] a) {
        return which < FIRST_ASKED ? change(x, which, a) : ask(x, which, a);
    }

    private static long change(SalvageOfDays x, int which, int[] a) {
        switch (which) {
            case 0: return x.cask(a[0], a[1], a[2]);
            case 1: return x.sky(a[0], a[1]);
            case 2: return x.feed(a[0], a[1], a[2], a[3], a[4], a[5]);
            case TEXT: return x.text();
            case 4: return x.force(a[0]);
            case 5: return x.diver(a[0], a[1]);
            case 6: return x.put(a[0], a[1]);
            case 7: return x.dive(a[0], a[1]);
            case 8: return x.open(a[0]);
            case 9: return x.hour();
            case 10: return x.salvage(a[0], a[1]);
            case 11: return x.film(a[0], a[1], a[2]);
            case 12: return x.image();
            case 13: return x.back();
            case 14: return x.sheet(a[0], a[1], a[2]);
            case 15: return x.cell(a[0], a[1], a[2]);
            case 16: return x.copy(a[0], a[1], a[2], a[3], a[4]);
            default: return x.diversBy(a[0], a[1], a[2], a[3]);
        }
    }

    private static long ask(SalvageOfDays x, int which, int[] a) {
        switch (which) {
            case 18: return x.count(a[0]);
            case 19: return x.lies(a[0], a[1]);
            case 20: return x.asks(a[0], a[1], a[2]);
            case 21: return x.told(a[0], a[1]);
            case 22: return x.dives(a[0], a[1], a[2]);
            case 23: return x.bay(a[0]);
            case 24: return x.run(a[0], a[1]);
            case 25: return x.stills();
            case 26: return x.row(a[0], a[1], a[2]);
            case 27: return x.which(a[0], a[1]);
            case 28: return x.cargo(a[0], a[1]);
            case 29: return x.last(a[0], a[1], a[2]);
            case 30: return x.best(a[0]);
            case 31: return x.share(a[0], a[1]);
            case 32: return x.judge(a[0], a[1]);
            case 33: return x.opened(a[0], a[1]);
            case 34: return x.skies(a[0], a[1], a[2]);
            case 35: return x.whose(a[0]);
            case 36: return x.laws(a[0], a[1]);
            case 37: return x.kinds(a[0], a[1], a[2]);
            case 38: return x.breaths(a[0], a[1], a[2]);
            case 39: return x.drawn(a[0], a[1]);
            case 40: return x.odds(a[0], a[1], a[2], a[3]);
            default: return x.taken(a[0], a[1]);
        }
    }
}
