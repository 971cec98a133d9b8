/** Promises 1 to 6: a new object, casks, the sky, the tape. */
public final class CasksTest {
    private static final Due DUE = new Due("CasksTest");
    private static final int MIN = Integer.MIN_VALUE, MAX = Integer.MAX_VALUE;

    public static void main(String[] args) {
        aNewObject();
        count();
        cask();
        caskRefuses();
        lies();
        sky();
        feed();
        DUE.end();
    }

    private static void aNewObject() {
        SalvageOfDays x = new SalvageOfDays();
        int[] counts = {0, 12, 0, 0, 1, 0, 0};
        for (int what = 0; what < counts.length; what++) {
            DUE.is("1 count(" + what + ")", x.count(what), counts[what]);
        }
        for (int k = 0; k < 12; k++) {
            DUE.is("1 sort of " + k, x.lies(k, 0), k % 6);
            DUE.is("1 strong of " + k, x.lies(k, 1), 20);
            DUE.is("1 deep of " + k, x.lies(k, 2), 3 * k);
            DUE.is("1 place of " + k, x.lies(k, 3), 0);
        }
        for (int t = 0; t < 6; t++) {
            DUE.is("1 bay(" + t + ")", x.bay(t), 0);
        }
        for (int s = 0; s < 4; s++) {
            DUE.is("1 cell of sheet " + s, x.cell(s, 0, 0), -11);
        }
        DUE.is("1 told(0, 0)", x.told(0, 0), -5);
        DUE.is("1 back()", x.back(), SalvageOfDays.STATE);
    }

    private static void count() {
        SalvageOfDays x = new SalvageOfDays();
        x.diver(0, 1);
        x.diver(0, 2);
        x.cask(3, 3, 1);
        x.cask(4, 3, 1);
        x.cask(5, 3, 1);
        x.cask(6, 3, 2);
        x.sky(6, 123);
        Due.text(x, "reaches 1;costs 1;fades 1;");
        Due.text(x, "reaches 1;costs 1;fades 1;");
        x.force(2);
        Due.feed(x, "some");
        int[] counts = {2, 8, 3, 123, 3, 2, 4};
        for (int what = 0; what < counts.length; what++) {
            DUE.is("2 count(" + what + ")", x.count(what), counts[what]);
        }
        for (int what : new int[] {-1, 7, MIN, MAX}) {
            DUE.is("2 count(" + what + ")", x.count(what), SalvageOfDays.BAD);
        }
    }

    private static void cask() {
        SalvageOfDays x = new SalvageOfDays();
        int[] first = {2, 20, 24, 0};
        int[] most = {5, 99, 99, 2};
        for (int what = 0; what < 4; what++) {
            DUE.is("3 cask, what it was", x.cask(8, what, 0), first[what]);
            DUE.is("3 cask, the most", x.cask(8, what, most[what]), 0);
            DUE.is("3 lies then", x.lies(8, what), most[what]);
            DUE.is("3 cask, one above", x.cask(8, what, most[what] + 1), -7);
            DUE.is("3 cask, one below", x.cask(8, what, -1), -7);
            DUE.is("3 cask, far off", x.cask(8, what, MIN), -7);
            DUE.is("3 cask, far off", x.cask(8, what, MAX), -7);
            DUE.is("3 refused, it stays", x.lies(8, what), most[what]);
            DUE.is("3 others stay", x.lies(7, what), new int[] {1, 20, 21, 0}[what]);
        }
        DUE.is("3 nothing gets loose", x.bay(5), 0);
        DUE.is("3 back in the wreck", x.cask(8, 3, 0), 2);
        DUE.is("3 count(1)", x.count(1), 12);
    }

    private static void caskRefuses() {
        SalvageOfDays x = new SalvageOfDays();
        for (int k : new int[] {-1, 12, MIN, MAX}) {
            DUE.is("3 no such cask comes first", x.cask(k, 9, -1), -5);
            DUE.is("4 no such cask comes first", x.lies(k, 9), -5);
        }
        for (int what : new int[] {-1, 4, MIN, MAX}) {
            DUE.is("3 what", x.cask(0, what, 0), -7);
            DUE.is("4 what", x.lies(0, what), -7);
        }
        DUE.is("3 cask 11", x.cask(11, 0, 1), 5);
    }

    private static void lies() {
        SalvageOfDays x = new SalvageOfDays();
        x.cask(9, 0, 4);
        x.cask(9, 1, 71);
        x.cask(9, 2, 63);
        x.cask(9, 3, 1);
        DUE.is("4 sort", x.lies(9, 0), 4);
        DUE.is("4 strong", x.lies(9, 1), 71);
        DUE.is("4 deep", x.lies(9, 2), 63);
        DUE.is("4 place", x.lies(9, 3), 1);
    }

    private static void sky() {
        SalvageOfDays x = new SalvageOfDays();
        for (int t = 0; t < 6; t++) {
            DUE.is("5 sky at first", x.sky(t, 40 + t), 0);
            DUE.is("5 sky then", x.sky(t, 99), 40 + t);
            DUE.is("5 sky above", x.sky(t, 100), -7);
            DUE.is("5 sky below", x.sky(t, -1), -7);
            DUE.is("5 refused, it stays", x.bay(t), 99);
        }
        DUE.is("5 hour at first", x.sky(6, 999), 0);
        DUE.is("5 hour then", x.sky(6, 7), 999);
        DUE.is("5 hour above", x.sky(6, 1000), -7);
        DUE.is("5 hour below", x.sky(6, -1), -7);
        DUE.is("5 refused, it stays", x.count(3), 7);
        for (int t : new int[] {-1, 7, MIN, MAX}) {
            DUE.is("5 no such comes first", x.sky(t, -1), -5);
        }
    }

    private static void feed() {
        SalvageOfDays x = new SalvageOfDays();
        for (int n : new int[] {0, -1, 6, MIN, MAX}) {
            DUE.is("6 n", x.feed(n, 97, 97, 97, 97, 97), SalvageOfDays.BAD);
        }
        for (int bad : new int[] {-1, 256, MIN, MAX}) {
            DUE.is("6 a", x.feed(1, bad, 0, 0, 0, 0), SalvageOfDays.BAD);
            DUE.is("6 b", x.feed(1, 0, bad, 0, 0, 0), SalvageOfDays.BAD);
            DUE.is("6 c", x.feed(1, 0, 0, bad, 0, 0), SalvageOfDays.BAD);
            DUE.is("6 d", x.feed(1, 0, 0, 0, bad, 0), SalvageOfDays.BAD);
            DUE.is("6 e", x.feed(1, 0, 0, 0, 0, bad), SalvageOfDays.BAD);
        }
        DUE.is("6 refused, none came", x.count(6), 0);
        for (int i = 1; i <= 31; i++) {
            DUE.is("6 five more", x.feed(5, 255, 0, 255, 0, 255), 5 * i);
        }
        DUE.is("6 three more", x.feed(3, 0, 255, 0, 255, 0), 158);
        DUE.is("6 no room for three", x.feed(3, 0, 0, 0, 0, 0), SalvageOfDays.FULL);
        DUE.is("6 none came", x.count(6), 158);
        DUE.is("6 bad comes first", x.feed(5, 0, 0, 0, 0, 256), SalvageOfDays.BAD);
        DUE.is("6 room for two", x.feed(2, 0, 0, 0, 0, 0), 160);
        DUE.is("6 no room", x.feed(1, 0, 0, 0, 0, 0), SalvageOfDays.FULL);
        feedInOrder();
    }

    private static void feedInOrder() {
        SalvageOfDays x = new SalvageOfDays();
        String text = "reaches 12;costs 3;fades 45;";
        x.feed(5, 'r', 'e', 'a', 'c', 'h');
        x.feed(4, 'e', 's', ' ', '1', 'x');
        x.feed(3, '2', ';', 'c', 'x', 'x');
        x.feed(2, 'o', 's', 'x', 'x', 'x');
        DUE.is("6 one more", x.feed(1, 't', 'x', 'x', 'x', 'x'), 15);
        Due.feed(x, text.substring(15));
        DUE.is("6 as fed", x.text(), 1);
        x.force(1);
        DUE.is("6 as fed", x.asks(2, 0, 0), 45);
    }
}
