/** Promises 27 to 34: told hours, told dives. */
public final class ToldTest {
    private static final Due DUE = new Due("ToldTest");
    private static final int MIN = Integer.MIN_VALUE, MAX = Integer.MAX_VALUE;
    private static final int BAD = SalvageOfDays.BAD;

    public static void main(String[] args) {
        judge();
        judgeByHours();
        hoursRefuse();
        opened();
        skies();
        whose();
        laws();
        film();
        filmRefuses();
        kindsOf();
        moreOf();
        breaths();
        divesRefuse();
        DUE.end();
    }

    private static void judge() {
        SalvageOfDays x = new SalvageOfDays();
        x.sky(1, 10);
        Due.sheet(x, 2, 7, 4, 1, 0, 0);
        DUE.is("27 all so", x.judge(2, 1), -1);
        DUE.is("27 the first is otherwise", x.judge(2, 0), 0);
        x.cell(2, 4, 1);
        DUE.is("27 the last is otherwise", x.judge(2, 1), 4);
        x.cell(2, 2, 2);
        DUE.is("27 the first of two", x.judge(2, 1), 2);
        x.cell(2, 0, 10);
        DUE.is("27 not as it is now", x.judge(2, 1), 0);
        x.sheet(2, 0, 0);
        DUE.is("27 none is told", x.judge(2, 1), -1);
        x.sheet(2, 0, 20);
        DUE.is("27 twenty", x.judge(2, 0), -1);
        x.cell(2, 19, -1);
        DUE.is("27 the twentieth", x.judge(2, 0), 19);
        DUE.is("27 nothing changes", x.bay(1), 10);
        DUE.is("27 nothing changes", x.count(3), 0);
    }

    private static void judgeByHours() {
        SalvageOfDays x = Due.under("reaches 0;costs 0;fades hour - 998 + sort;");
        x.sky(4, 50);
        x.sky(6, 999);
        Due.sheet(x, 0, 45, 39, 32);
        DUE.is("27 the hour passes 999", x.judge(0, 4), -1);
        SalvageOfDays y = Due.under("reaches 0;costs 0;fades strong - strong * (strong < 20);");
        y.sky(4, 30);
        y.sky(5, 19);
        Due.sheet(y, 0, 0, 0);
        DUE.is("27 by its own weather", y.judge(0, 4), -1);
        Due.sheet(y, 0, 19, 19);
        DUE.is("27 by its own weather", y.judge(0, 5), -1);
    }

    /** What the calls of told hours refuse, in this order. */
    private static void hoursRefuse() {
        SalvageOfDays x = new SalvageOfDays();
        x.sheet(1, 2, 21);
        x.sheet(2, 2, 20);
        for (int s : new int[] {-1, 4, MIN, MAX}) {
            hoursRefuse(x, s, 9, 9, BAD);
            DUE.is("30 sheet", x.whose(s), BAD);
        }
        hoursRefuse(x, 0, 9, 9, -11);
        DUE.is("30 nothing there", x.whose(0), -11);
        hoursRefuse(x, 1, 9, 9, BAD);
        DUE.is("30 more than 20", x.whose(1), BAD);
        for (int t : new int[] {-1, 6, MIN, MAX}) {
            hoursRefuse(x, 2, t, 9, -5);
        }
        for (int what : new int[] {-1, 2, MIN, MAX}) {
            DUE.is("29 what", x.skies(2, 0, what), -7);
        }
    }

    private static void hoursRefuse(SalvageOfDays x, int s, int t, int what, int due) {
        DUE.is("27 judge", x.judge(s, t), due);
        DUE.is("28 opened", x.opened(s, t), due);
        DUE.is("29 skies", x.skies(s, t, what), due);
        DUE.is("31 laws", x.laws(s, t), due);
    }

    private static void opened() {
        SalvageOfDays x = new SalvageOfDays();
        x.cask(7, 1, 10);
        x.cask(1, 3, 1);
        x.cask(7, 3, 1);
        x.cask(4, 3, 1);
        x.cask(10, 3, 2);
        Due.sheet(x, 0, 7, 4);
        DUE.is("28 by one of two", x.opened(0, 1), 1 << 7);
        Due.sheet(x, 0, 17);
        DUE.is("28 by the other one", x.opened(0, 1), 1 << 1);
        Due.sheet(x, 0, 27);
        DUE.is("28 not by both", x.opened(0, 1), 0);
        x.cask(0, 3, 1);
        DUE.is("28 by the first cask", x.opened(0, 0), 0);
        Due.sheet(x, 0, 17, 14);
        DUE.is("28 by the first cask", x.opened(0, 0), 1);
        x.cask(0, 3, 0);
        Due.sheet(x, 0, 0);
        DUE.is("28 by one of another sort", x.opened(0, 1), 1 << 4);
        x.sky(1, 95);
        Due.sheet(x, 0, 96, 93);
        DUE.is("28 at most 99", x.opened(0, 1), 1 << 7 | 1 << 1);
        x.sheet(0, 0, 0);
        DUE.is("28 none is told", x.opened(0, 3), 1 << 7 | 1 << 1 | 1 << 4);
        DUE.is("28 in thought", x.count(2), 3);
        DUE.is("28 in thought", x.bay(1), 95);
    }

    private static void skies() {
        SalvageOfDays x = new SalvageOfDays();
        x.sky(2, 55);
        Due.sheet(x, 0, 0, 0);
        DUE.is("29 how many", x.skies(0, 2, 0), 4);
        DUE.is("29 the least", x.skies(0, 2, 1), 0);
        Due.sheet(x, 0, 5, 2);
        DUE.is("29 how many", x.skies(0, 2, 0), 1);
        DUE.is("29 the least", x.skies(0, 2, 1), 8);
        Due.sheet(x, 0, 96);
        DUE.is("29 the most", x.skies(0, 2, 1), 99);
        Due.sheet(x, 0, 97);
        DUE.is("29 none", x.skies(0, 2, 0), 0);
        DUE.is("29 none", x.skies(0, 2, 1), -1);
        x.sheet(0, 0, 0);
        DUE.is("29 none is told", x.skies(0, 2, 0), 100);
        DUE.is("29 in thought", x.bay(2), 55);
        SalvageOfDays y = Due.under("reaches 0;costs 0;fades (strong < 50) * strong;");
        Due.sheet(y, 0, 0);
        DUE.is("29 by that much", y.skies(0, 2, 0), 50);
        Due.sheet(y, 0, 70);
        DUE.is("29 by that much", y.skies(0, 2, 1), 70);
    }

    private static void whose() {
        SalvageOfDays x = new SalvageOfDays();
        x.sky(1, 10);
        x.sky(2, 11);
        x.sky(5, 10);
        Due.sheet(x, 3, 7, 4);
        DUE.is("30 two", x.whose(3), 2 | 32);
        Due.sheet(x, 3, 0);
        DUE.is("30 without weather", x.whose(3), 1 | 8 | 16);
        Due.sheet(x, 3, 50);
        DUE.is("30 none", x.whose(3), 0);
        x.sheet(3, 1, 0);
        DUE.is("30 none is told", x.whose(3), 63);
    }

    private static void laws() {
        SalvageOfDays x = new SalvageOfDays();
        Due.text(x, "reaches 0;costs 0;fades 0;");
        Due.text(x, "reaches 0;costs 0;fades sort;");
        Due.text(x, "reaches 0;costs 0;fades 1 + hour * 2;");
        x.sky(3, 30);
        Due.sheet(x, 0, 27);
        DUE.is("31 by two", x.laws(0, 3), 1 | 4);
        Due.sheet(x, 0, 30, 30);
        DUE.is("31 by one", x.laws(0, 3), 2);
        Due.sheet(x, 0, 29, 26);
        DUE.is("31 by the hour", x.laws(0, 3), 8);
        Due.sheet(x, 0, 3);
        DUE.is("31 by none", x.laws(0, 3), 0);
        x.sheet(0, 0, 0);
        DUE.is("31 none is told", x.laws(0, 3), 15);
        DUE.is("31 the law stays", x.count(5), 0);
    }

    private static void film() {
        SalvageOfDays x = new SalvageOfDays();
        x.sky(4, 10);
        x.sheet(1, 2, 30);
        DUE.is("32 n", x.film(1, 4, 5), 5);
        DUE.is("32 just so many", x.cell(1, 5, 0), -12);
        DUE.is("32 as it will be", x.judge(1, 4), -1);
        DUE.is("32 of that sort", x.judge(1, 3), 0);
        Due.sheet(x, 2, 7, 4, 1, 0, 0);
        DUE.is("32 of bytes", x.copy(1, 0, 2, 0, 1), -13);
        x.sheet(2, 0, 1);
        DUE.is("32 of bytes", x.copy(1, 0, 2, 0, 1), 1);
        DUE.is("32 the first", x.skies(2, 4, 1), 10);
        DUE.is("32 none", x.film(3, 4, 0), 0);
        DUE.is("32 none, but not missing", x.cell(3, 0, 0), -12);
        DUE.is("32 twenty", x.film(3, 4, 20), 20);
        DUE.is("32 twenty", x.cell(3, 19, 0), 1);
        DUE.is("32 the weather stays", x.bay(4), 10);
        DUE.is("32 the hour stays", x.count(3), 0);
        Due.text(x, "reaches 0;costs 0;fades hour;");
        x.force(1);
        x.sky(6, 1);
        x.film(3, 4, 4);
        Due.sheet(x, 2, 9, 7, 4, 0);
        DUE.is("32 by the hour", x.judge(3, 4), -1);
        DUE.is("32 by the hour, as told", x.judge(2, 4), -1);
        x.force(0);
        x.sky(4, 99);
        x.film(3, 4, 1);
        DUE.is("32 behind one hour", x.skies(3, 4, 1), 99);
    }

    private static void filmRefuses() {
        SalvageOfDays x = new SalvageOfDays();
        for (int s : new int[] {-1, 4, MIN, MAX}) {
            DUE.is("32 sheet", x.film(s, 9, 99), BAD);
        }
        for (int t : new int[] {-1, 6, MIN, MAX}) {
            DUE.is("32 no sort comes ahead", x.film(0, t, 99), -5);
        }
        for (int n : new int[] {-1, 21, MIN, MAX}) {
            DUE.is("32 n", x.film(0, 0, n), -7);
        }
        DUE.is("32 refused, it is missing", x.cell(0, 0, 0), -11);
    }

    private static void kindsOf() {
        SalvageOfDays x = new SalvageOfDays();
        x.diver(3, 50);
        Due.sheet(x, 0, 1, 1, 0);
        DUE.is("33 a widow", x.kinds(0, 0, 0), 16);
        x.sheet(0, 0, 0);
        DUE.is("33 none is told", x.kinds(0, 0, 0), 63);
        Due.sheet(x, 0, 1, 1, 1, 1, 1, 1, 1, 1, 1, 0, 0, 0);
        DUE.is("33 as told(0, 4) has it", x.kinds(0, 0, 0), 1 | 2 | 32);
        DUE.is("33 as told(0, 4) has it", x.told(0, 4), 511);
        Due.sheet(x, 0, 1, 2);
        DUE.is("33 2 is never so", x.kinds(0, 0, 0), 0);
        Due.sheet(x, 0, -1);
        DUE.is("33 -1 is never so", x.kinds(0, 0, 0), 0);
        x.cask(0, 3, 1);
        Due.sheet(x, 0, 0, 1);
        DUE.is("33 not from the quay", x.kinds(0, 0, 0), 63);
        DUE.is("33 in thought", x.told(0, 2), 0);
    }

    private static void moreOf() {
        SalvageOfDays x = Due.under("reaches breath;costs 0;fades 0;");
        x.diver(12, 20);
        Due.sheet(x, 0, 1, 1, 1, 1, 0);
        DUE.is("33 a boy's more", x.kinds(0, 0, 1), 1 | 2);
        Due.sheet(x, 0, 1, 1, 1, 1, 1, 0);
        DUE.is("33 a boy's more", x.kinds(0, 0, 1), 4 | 8 | 16);
        Due.sheet(x, 0, 1, 1, 1, 1, 1, 1, 1, 0);
        DUE.is("33 a boy's more", x.kinds(0, 0, 1), 256 | 512);
        x.sheet(0, 0, 0);
        DUE.is("33 none is told", x.kinds(0, 0, 1), 1023);
        DUE.is("33 in thought", x.told(0, 3), 2);
        SalvageOfDays y = Due.under("reaches 99;costs (more < 3) * 50;fades 0;");
        y.diver(59, 40);
        y.diver(0, 40);
        Due.sheet(y, 0, 1);
        DUE.is("33 by the text", y.kinds(0, 0, 1), 1023 - 7);
        DUE.is("33 by the text", y.kinds(0, 1, 0), 4 | 8 | 16);
        Due.sheet(y, 0, 0);
        DUE.is("33 by the text", y.kinds(0, 0, 1), 7);
    }

    private static void breaths() {
        SalvageOfDays x = new SalvageOfDays();
        x.diver(0, 50);
        Due.sheet(x, 0, 1, 1, 0);
        DUE.is("34 how many", x.breaths(0, 0, 0), 6);
        DUE.is("34 the least", x.breaths(0, 0, 1), 6);
        Due.sheet(x, 0, 1, 1, 1, 1, 1, 1, 1, 1, 1, 1, 1, 1);
        DUE.is("34 how many", x.breaths(0, 0, 0), 34);
        DUE.is("34 the least", x.breaths(0, 0, 1), 66);
        Due.sheet(x, 0, 0);
        DUE.is("34 none", x.breaths(0, 0, 0), 0);
        DUE.is("34 none", x.breaths(0, 0, 1), -1);
        Due.sheet(x, 0, 2);
        DUE.is("34 2 is never so", x.breaths(0, 0, 0), 0);
        x.sheet(0, 0, 0);
        DUE.is("34 none is told", x.breaths(0, 0, 0), 100);
        DUE.is("34 none is told", x.breaths(0, 0, 1), 0);
        DUE.is("34 in thought", x.told(0, 0), 50);
        SalvageOfDays y = Due.under("reaches 99;costs breath - more;fades 0;");
        y.diver(25, 50);
        y.cask(0, 0, 1);
        Due.sheet(y, 0, 1);
        DUE.is("34 costs breath, as of its kind", y.breaths(0, 0, 0), 95);
        DUE.is("34 costs breath, as of its kind", y.breaths(0, 0, 1), 5);
    }

    private static void divesRefuse() {
        SalvageOfDays x = new SalvageOfDays();
        x.diver(0, 50);
        x.sheet(1, 2, 13);
        x.sheet(2, 2, 12);
        for (int s : new int[] {-1, 4, MIN, MAX}) {
            divesRefuse(x, s, 9, 9, BAD);
        }
        divesRefuse(x, 0, 9, 9, -11);
        divesRefuse(x, 1, 9, 9, BAD);
        for (int p : new int[] {-1, 1, MIN, MAX}) {
            divesRefuse(x, 2, p, 9, -5);
        }
        for (int what : new int[] {-1, 2, MIN, MAX}) {
            divesRefuse(x, 2, 0, what, -7);
        }
    }

    private static void divesRefuse(SalvageOfDays x, int s, int p, int what, int due) {
        DUE.is("33 kinds", x.kinds(s, p, what), due);
        DUE.is("34 breaths", x.breaths(s, p, what), due);
    }
}
