import java.util.Arrays;

/**
 * Promises 2 to 43: each number of each call at its least and its most, one beyond on either side
 * and as far as an int goes, all of them with all, on a new object, on one that has something of
 * all and on one that is full; what is due is the model's answer.
 */
public final class BoundsTest {
    private static final Due DUE = new Due("BoundsTest");
    private static final int CALLS_OF_ONE = 400, SETUP_CALLS = 260;
    private static final String[] BOUNDS = {
        "count 0..6", "cask 0..11 0..3 0..99", "cask 0..11 0..3 2..5", "lies 0..11 0..3",
        "sky 0..5 0..99", "sky 5..6 0..999", "feed 1..5 0..255 0..255 0..255 0..255 0..255",
        "text", "force 0..5", "force 0..2", "asks 0..2 0..5 0..11", "asks 1..2 0..1 0..5",
        "diver 0..59 0..99", "put 0..5 0..99", "put 0..1 0..99", "told 0..5 0..5", "told 0..1 0..5",
        "dives 0..5 0..11 0..2", "dives 0..1 1..4 0..2", "dive 0..5 0..11", "dive 0..1 3..4",
        "open 0..11", "open 1..7", "hour", "bay 0..7", "bay 5..6", "run 0..40 0..7",
        "run 0..40 10..15", "run 0..40 10..11", "stills", "row 0..3 0..5 0..3", "row 0..2 0..1 0..3",
        "salvage 0..3 0..5", "salvage 0..2 0..1", "which 0..40 0..1", "cargo 0..999 0..1",
        "cargo 3..24 0..1", "last 0..5 0..11 0..3", "last 0..1 0..3 0..2", "best 0..1",
        "share 0..5 0..1", "judge 0..3 0..5", "judge 1..2 1..3", "opened 0..3 0..5",
        "opened 1..2 1..3", "skies 0..3 0..5 0..1", "skies 1..2 1..3 0..1", "whose 0..3", "whose 1..2",
        "laws 0..3 0..5", "laws 1..2 1..3", "film 0..3 0..5 0..20", "kinds 0..3 0..5 0..1",
        "kinds 0..1 0..1 0..1", "breaths 0..3 0..5 0..1", "breaths 0..1 0..1 0..1",
        "drawn 0..99999 0..1", "odds 0..99999 1..40 0..5 0..1", "image", "back",
        "sheet 0..3 -1..2 0..40", "sheet 0..3 0..1 0..40", "cell 0..3 0..39 0..255",
        "cell 0..1 0..3 0..65535", "copy 0..3 0..39 0..3 0..39 0..40", "copy 0..3 0..3 0..3 0..4 0..4",
        "diversBy 0..3 0..2 0..39 0..6", "diversBy 0..3 1..2 0..4 1..2", "taken 0..17 0..6",
        "taken 1..5 0..6", "taken 6..10 0..6"
    };

    private final int state;
    private SalvageOfDays x;
    private Model model;
    private int left;

    private BoundsTest(int state) {
        this.state = state;
    }

    public static void main(String[] args) {
        for (int state = 0; state < 3; state++) {
            BoundsTest test = new BoundsTest(state);
            for (String told : BOUNDS) {
                String[] words = told.split(" ");
                test.calls(words, new int[words.length - 1], 0);
            }
        }
        DUE.end();
    }

    private void calls(String[] words, int[] numbers, int at) {
        if (at == numbers.length) {
            call(words[0], numbers);
            return;
        }
        String[] bounds = words[at + 1].split("\\.\\.");
        int least = Integer.parseInt(bounds[0]);
        int most = Integer.parseInt(bounds[1]);
        boolean isOneOfMany = words[0].equals("feed") && at > 0;
        int[] values = isOneOfMany ? new int[] {least - 1, least, most, most + 1}
            : new int[] {least - 1, least, most, most + 1, Integer.MIN_VALUE, Integer.MAX_VALUE};
        for (int value : values) {
            numbers[at] = value;
            calls(words, numbers, at + 1);
        }
    }

    private void call(String name, int[] numbers) {
        if (left == 0) {
            x = new SalvageOfDays();
            model = new Model();
            left = CALLS_OF_ONE;
            setUp();
            DUE.isTrue("the setup is within so many calls", CALLS_OF_ONE - left <= SETUP_CALLS);
        }
        both(name, numbers);
    }

    private void both(String name, int... numbers) {
        left--;
        long want = ModelTest.answer(model, name, numbers);
        DUE.is("object " + state + ", " + name + Arrays.toString(numbers),
            ModelTest.answer(x, name, numbers), want);
    }

    private void setUp() {
        if (state == 1) {
            hasSomethingOfAll();
        } else if (state == 2) {
            isFull();
        }
    }

    private void text(String law) {
        for (int i = 0; i < law.length(); i += 5) {
            int[] a = new int[6];
            a[0] = Math.min(5, law.length() - i);
            for (int j = 0; j < a[0]; j++) {
                a[j + 1] = law.charAt(i + j);
            }
            both("feed", a);
        }
        both("text");
    }

    private void sheet(int s, int sort, int... numbers) {
        both("sheet", s, sort, numbers.length);
        for (int i = 0; i < numbers.length; i++) {
            both("cell", s, i, numbers[i]);
        }
    }

    private void hasSomethingOfAll() {
        text("reaches breath+more;costs deep+1;fades 2+(sort=3)+hour*0;");
        text("reaches 1;costs 2;fades 5;");
        both("force", 1);
        both("diver", 25, 60);
        both("diver", 32, 40);
        for (int t = 0; t < 6; t++) {
            both("sky", t, 50 - 7 * t);
        }
        both("sky", 6, 5);
        both("dive", 0, 1);
        both("cask", 7, 3, 1);
        both("cask", 4, 3, 2);
        both("cask", 10, 3, 2);
        sheet(0, 2, 1, 0, 1, 1);
        both("film", 1, 1, 3);
        sheet(2, 1, 12, 40, 3);
        both("image");
    }

    private void isFull() {
        for (int i = 0; i < 5; i++) {
            text("reaches 99;costs " + i + ";fades " + i + ";");
        }
        for (int i = 0; i < 32; i++) {
            both("feed", 5, 'r', ' ', 255, 0, '1');
        }
        for (int p = 0; p < 6; p++) {
            both("diver", 10 * p + 9, 99);
            both("sky", p, 99);
        }
        both("sky", 6, 999);
        for (int k = 0; k < 12; k++) {
            both("cask", k, 3, 1);
            both("cask", k, 1, 99);
            both("cask", k, 2, 99);
        }
        for (int s = 0; s < 4; s++) {
            both("sheet", s, s % 3, 40);
        }
        both("film", 1, 0, 20);
        both("image");
    }
}
