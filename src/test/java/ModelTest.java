import java.lang.reflect.InvocationTargetException;
import java.lang.reflect.Method;
import java.util.Arrays;
import java.util.Random;

/**
 * Promises 1 to 43: runs of 512 calls by chance, the same each time, on the class and on the
 * model, which tells the document once more; each answer of the one is due by the other.
 */
public final class ModelTest {
    private static final Due DUE = new Due("ModelTest");
    private static int good;
    private static final int RUNS = 400, CALLS = 512, TEXTS = 40000;
    /** A call, how often it comes, and from what to what each of its numbers is taken. */
    private static final String[] CALLS_BY_CHANCE = {
        "count 1 0..6", "cask 6 0..11 0..3 0..99", "cask 4 0..11 3..3 0..1", "lies 2 0..11 0..3",
        "sky 6 0..5 0..99", "sky 2 6..6 0..999", "sky 1 6..6 990..999",
        "feed 1 1..5 0..255 0..255 0..255 0..255 0..255", "text 1", "force 4 0..5",
        "asks 3 0..1 0..5 0..11", "asks 2 2..2 0..5 0..5", "diver 3 0..59 0..99", "put 2 0..5 0..99",
        "told 6 0..5 0..5", "dives 6 0..5 0..11 0..2", "dive 8 0..5 0..11", "open 6 0..11",
        "hour 4", "bay 3 0..7", "run 4 0..40 0..7", "run 3 0..40 10..15", "stills 1",
        "row 4 0..3 0..5 0..3", "salvage 2 0..3 0..5", "which 4 0..40 0..1", "which 2 0..4 0..1",
        "cargo 2 0..999 0..1", "cargo 4 0..99 0..1", "last 3 0..5 0..11 0..2",
        "last 1 0..5 0..11 3..3", "best 3 0..1", "share 3 0..5 0..1", "judge 4 0..3 0..5",
        "opened 3 0..3 0..5", "skies 2 0..3 0..5 0..1", "whose 3 0..3", "laws 3 0..3 0..5",
        "film 2 0..3 0..5 0..20", "kinds 4 0..3 0..5 0..1", "breaths 3 0..3 0..5 0..1",
        "drawn 2 0..99999 0..1", "odds 1 0..99999 1..40 0..5 0..1", "image 1", "back 1",
        "sheet 2 0..3 -1..2 0..40", "cell 3 0..3 0..5 0..99", "cell 1 0..3 0..39 0..65536",
        "copy 4 0..3 0..5 0..3 0..5 0..5", "copy 1 0..3 0..40 0..3 0..40 0..40",
        "diversBy 1 0..3 0..2 0..40 0..6", "taken 3 0..17 0..6"
    };
    private static final String[] ONES = {
        "breath", "deep", "strong", "sort", "hour", "more", "0", "1", "2", "3", "7", "10", "99", "9999"
    };
    private static final String[] TOKENS = {
        "reaches", "costs", "fades", "and", "or", "not", "(", ")", ";", "+", "-", "*", "<", "=",
        "deep", "more", "1", "12", "1234", "12345", "sorts", ",", "A", "not not", "( -", "- -"
    };

    private final Random random;
    private final SalvageOfDays x = new SalvageOfDays();
    private final Model model = new Model();
    private final StringBuilder calls = new StringBuilder();
    private int left = CALLS;

    private ModelTest(long seed) {
        random = new Random(seed);
    }

    public static void main(String[] args) {
        for (int seed = 0; seed < RUNS; seed++) {
            new ModelTest(seed).run();
        }
        Random random = new Random(77);
        for (int i = 0; i < TEXTS; i++) {
            readsAlike(random, changed(random, law(random, 3)));
        }
        DUE.isTrue("good texts and others: " + good, good > TEXTS / 4 && good < TEXTS * 3 / 4);
        DUE.end();
    }

    private void run() {
        for (int i = random.nextInt(4); i > 0; i--) {
            feeds(law(random, 2));
        }
        for (int i = random.nextInt(7); i > 0; i--) {
            call("diver", random.nextInt(60), random.nextInt(100));
        }
        while (left > 0) {
            switch (random.nextInt(20)) {
                case 0: tellsHours(); break;
                case 1: tellsDives(); break;
                case 2: tellsRow(); break;
                case 3: tellsDivers(); break;
                default: callsByChance();
            }
        }
    }

    private void callsByChance() {
        int all = 0;
        for (String told : CALLS_BY_CHANCE) {
            all += Integer.parseInt(told.split(" ")[1]);
        }
        int lot = random.nextInt(all);
        for (String told : CALLS_BY_CHANCE) {
            String[] words = told.split(" ");
            lot -= Integer.parseInt(words[1]);
            if (lot < 0) {
                int[] numbers = new int[words.length - 2];
                for (int i = 0; i < numbers.length; i++) {
                    numbers[i] = number(words[i + 2].split("\\.\\."));
                }
                call(words[0], numbers);
                return;
            }
        }
    }

    private int number(String[] bounds) {
        int least = Integer.parseInt(bounds[0]);
        int most = Integer.parseInt(bounds[1]);
        switch (random.nextInt(60)) {
            case 0: return least - 1;
            case 1: return most + 1;
            case 2: return random.nextInt();
            case 3: return random.nextBoolean() ? Integer.MIN_VALUE : Integer.MAX_VALUE;
            case 4: return least;
            case 5: return most;
            default:
                int span = random.nextInt(3) == 0 ? Math.min(most - least, 5) : most - least;
                return least + random.nextInt(span + 1);
        }
    }

    // ---- some calls that go together, so that what is told is so, or nearly

    private void feeds(String law) {
        for (int at = 0; at < law.length(); ) {
            int n = Math.min(1 + random.nextInt(5), law.length() - at);
            int[] a = new int[] {n, 0, 0, 0, 0, 0};
            for (int i = 0; i < n; i++) {
                a[i + 1] = law.charAt(at + i);
            }
            call("feed", a);
            at += n;
        }
        call("text");
        call("force", random.nextInt(6));
    }

    private void tellsHours() {
        int s = random.nextInt(4);
        int t = random.nextInt(6);
        boolean isOpened = random.nextBoolean();
        call("sky", t, random.nextInt(100));
        if (isOpened) {
            call("image");
            call("open", t + 6 * random.nextInt(2));
        }
        call("film", s, t, random.nextInt(6));
        if (isOpened) {
            call("back");
            call("opened", s, t);
        } else if (random.nextBoolean()) {
            call("cell", s, random.nextInt(5), random.nextInt(100));
        }
        call("judge", s, t);
        call("whose", s);
        call("laws", s, t);
        call("skies", s, t, 0);
        call("skies", s, t, 1);
    }

    private void tellsDives() {
        int s = random.nextInt(4);
        int p = random.nextInt(6);
        int many = random.nextInt(13);
        call("sheet", s, random.nextInt(3), many);
        for (int k = 0; k < many; k++) {
            int isSo = model.dives(p, k, 2);
            call("cell", s, k, random.nextInt(40) == 0 ? 1 - isSo : isSo);
        }
        call("kinds", s, p, 0);
        call("kinds", s, p, 1);
        call("breaths", s, p, 0);
        call("breaths", s, p, 1);
    }

    private void tellsRow() {
        int s = random.nextInt(4);
        int p = random.nextInt(6);
        int many = random.nextInt(8);
        call("sheet", s, random.nextInt(3), many);
        for (int i = 0; i < many; i++) {
            call("cell", s, i, random.nextInt(12));
        }
        for (int what = 0; what < 4; what++) {
            call("row", s, p, what);
        }
        call("salvage", s, p);
    }

    private void tellsDivers() {
        int s = random.nextInt(4);
        int sort = random.nextInt(3);
        int many = random.nextInt(9);
        call("sheet", s, sort, many);
        for (int i = 0; i < many; i++) {
            call("cell", s, i, random.nextInt(i % 2 == 0 ? 66 : 110));
        }
        call("diversBy", s, sort, random.nextInt(3), random.nextInt(4));
        call("count", 0);
    }

    private void call(String name, int... numbers) {
        if (left == 0) {
            return;
        }
        left--;
        calls.append(name).append(Arrays.toString(numbers)).append(' ');
        long got = answer(x, name, numbers);
        long want = answer(model, name, numbers);
        DUE.is(got == want ? name : calls.toString(), got, want);
    }

    /** What a call of that name answers, of the class or of the model. */
    static long answer(Object asked, String name, int[] numbers) {
        Class<?>[] types = new Class<?>[numbers.length];
        Object[] boxed = new Object[numbers.length];
        for (int i = 0; i < numbers.length; i++) {
            types[i] = int.class;
            boxed[i] = numbers[i];
        }
        try {
            Method method = asked.getClass().getDeclaredMethod(name, types);
            return ((Number) method.invoke(asked, boxed)).longValue();
        } catch (InvocationTargetException e) {
            throw new IllegalStateException(name + Arrays.toString(numbers), e.getCause());
        } catch (ReflectiveOperationException e) {
            throw new IllegalStateException(e);
        }
    }

    // ---- texts by chance

    private static String law(Random random, int deep) {
        String law;
        do {
            law = "reaches " + any(random, deep) + ";costs " + any(random, deep) + " ; fades "
                + any(random, deep) + ";";
        } while (law.length() > 160);
        return law;
    }

    private static String any(Random random, int deep) {
        if (deep == 0 || random.nextInt(4) == 0) {
            return ONES[random.nextInt(ONES.length)];
        }
        String one = any(random, deep - 1);
        switch (random.nextInt(12)) {
            case 0: return one + " and " + any(random, deep - 1);
            case 1: return one + " or " + any(random, deep - 1);
            case 2: return "not " + one;
            case 3: return one + "<" + any(random, deep - 1);
            case 4: return one + "=" + any(random, deep - 1);
            case 5: return one + "+" + any(random, deep - 1);
            case 6: return one + " - " + any(random, deep - 1);
            case 7: case 8: return one + "*" + any(random, deep - 1);
            case 9: return "-" + one;
            default: return "(" + one + ")";
        }
    }

    /** Some tokens or bytes of the law are put in, left out or put for another. */
    private static String changed(Random random, String law) {
        StringBuilder text = new StringBuilder(law);
        for (int i = random.nextInt(4); i > 1; i--) {
            int at = random.nextInt(Math.max(1, text.length()));
            String token = TOKENS[random.nextInt(TOKENS.length)];
            switch (random.nextInt(5)) {
                case 0: text.insert(at, " " + token + " "); break;
                case 1: text.insert(at, token); break;
                case 2: text.delete(at, at + 1); break;
                case 3: text.replace(at, at + 1, "" + (char) random.nextInt(256)); break;
                default: text.setLength(at);
            }
        }
        text.setLength(Math.min(160, text.length()));
        return text.toString();
    }

    private static void readsAlike(Random random, String text) {
        SalvageOfDays x = new SalvageOfDays();
        Model model = new Model();
        int due = new ModelLaw(text).fault;
        good += due == -1 ? 1 : 0;
        int got = Due.text(x, text);
        DUE.is("7 " + text, got, due == -1 ? 1 : -100 - due);
        if (got != 1 || due != -1) {
            return;
        }
        for (int i = 0; i < text.length(); i++) {
            model.feed(1, text.charAt(i), 0, 0, 0, 0);
        }
        model.text();
        int[] numbers = {random.nextInt(60), random.nextInt(100), random.nextInt(1000)};
        int k = random.nextInt(12);
        int deep = random.nextInt(100);
        x.force(1);
        model.force(1);
        x.diver(numbers[0], numbers[1]);
        model.diver(numbers[0], numbers[1]);
        x.sky(6, numbers[2]);
        model.sky(6, numbers[2]);
        x.cask(k, 2, deep);
        model.cask(k, 2, deep);
        x.sky(k % 6, deep);
        model.sky(k % 6, deep);
        for (int part = 0; part < 3; part++) {
            DUE.is("9 part " + part + " of " + text, x.asks(part, 0, part == 2 ? k % 6 : k),
                model.asks(part, 0, part == 2 ? k % 6 : k));
        }
    }
}
