/** Counts the answers that are not due, and tells them. */
final class Due {
    private final String name;
    private int asked;
    private int wrong;

    Due(String name) {
        this.name = name;
    }

    void is(String call, long got, long want) {
        asked++;
        if (got != want) {
            wrong++;
            System.out.println(name + ": " + call + " answered " + got + ", due is " + want);
        }
    }

    void isTrue(String what, boolean holds) {
        is(what, holds ? 1 : 0, 1);
    }

    void end() {
        System.out.println(name + ": " + asked + " answers, " + wrong + " not as due");
        if (wrong != 0) {
            System.exit(1);
        }
    }

    static void feed(SalvageOfDays x, String text) {
        for (int at = 0; at < text.length(); at += 5) {
            int n = Math.min(5, text.length() - at);
            int[] bytes = new int[5];
            for (int i = 0; i < n; i++) {
                bytes[i] = text.charAt(at + i);
            }
            x.feed(n, bytes[0], bytes[1], bytes[2], bytes[3], bytes[4]);
        }
    }

    static int text(SalvageOfDays x, String text) {
        feed(x, text);
        return x.text();
    }

    /** A new object whose law is the text. */
    static SalvageOfDays under(String text) {
        SalvageOfDays x = new SalvageOfDays();
        int number = text(x, text);
        if (number < 0) {
            throw new IllegalArgumentException("a test's law has a fault: " + text);
        }
        x.force(number);
        return x;
    }

    /** A sheet of ints that tells the numbers. */
    static void sheet(SalvageOfDays x, int s, int... numbers) {
        x.sheet(s, 2, numbers.length);
        for (int i = 0; i < numbers.length; i++) {
            x.cell(s, i, numbers[i]);
        }
    }

    /** All that can be asked of an object's state but its sheets' numbers, as one text. */
    static String all(SalvageOfDays x) {
        StringBuilder told = new StringBuilder();
        for (int what = 0; what < 7; what++) {
            told.append(x.count(what)).append(' ');
        }
        for (int k = 0; k < 12; k++) {
            for (int what = 0; what < 4; what++) {
                told.append(x.lies(k, what)).append(' ');
            }
        }
        for (int t = 0; t < 6; t++) {
            told.append(x.bay(t)).append(' ').append(x.asks(2, 0, t)).append(' ');
        }
        for (int p = 0; p < x.count(0); p++) {
            for (int what = 0; what < 6; what++) {
                told.append(x.told(p, what)).append(' ');
            }
        }
        return told.toString();
    }
}
