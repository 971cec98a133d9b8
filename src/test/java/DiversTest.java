/** Promises 10 to 13: divers of kinds, what they can. */
public final class DiversTest {
    private static final Due DUE = new Due("DiversTest");
    private static final int MIN = Integer.MIN_VALUE, MAX = Integer.MAX_VALUE;

    public static void main(String[] args) {
        diver();
        put();
        told();
        kindsOfDivers();
        sortNull();
        noBoundAbove();
        whetherOneCan();
        divesRefuses();
        DUE.end();
    }

    private static void diver() {
        SalvageOfDays x = new SalvageOfDays();
        for (int bad : new int[] {-1, 60, MIN, MAX}) {
            DUE.is("10 kind and more", x.diver(bad, 0), SalvageOfDays.BAD);
        }
        for (int bad : new int[] {-1, 100, MIN, MAX}) {
            DUE.is("10 breath", x.diver(0, bad), SalvageOfDays.BAD);
        }
        DUE.is("10 refused, none came", x.count(0), 0);
        int[] kinds = {59, 0, 18, 25, 32, 41};
        for (int p = 0; p < 6; p++) {
            DUE.is("10 number", x.diver(kinds[p], 99 - p), p);
            DUE.is("10 breath", x.told(p, 0), 99 - p);
            DUE.is("10 brought", x.told(p, 1), 0);
            DUE.is("10 kind", x.told(p, 2), kinds[p] / 10);
            DUE.is("10 more", x.told(p, 3), kinds[p] % 10);
        }
        DUE.is("10 full", x.diver(0, 0), SalvageOfDays.FULL);
        DUE.is("10 bad, ahead of full", x.diver(60, 0), SalvageOfDays.BAD);
        DUE.is("10 bad, ahead of full", x.diver(0, 100), SalvageOfDays.BAD);
        DUE.is("10 none came", x.count(0), 6);
    }

    private static void put() {
        SalvageOfDays x = new SalvageOfDays();
        DUE.is("11 none such", x.put(0, 5), -5);
        x.diver(0, 33);
        x.diver(0, 44);
        DUE.is("11 what it was", x.put(0, 99), 33);
        DUE.is("11 what it was", x.put(0, 0), 99);
        DUE.is("11 others stay", x.told(1, 0), 44);
        DUE.is("11 below", x.put(0, -1), -7);
        DUE.is("11 above", x.put(0, 100), -7);
        DUE.is("11 refused, it stays", x.told(0, 0), 0);
        for (int p : new int[] {-1, 2, MIN, MAX}) {
            DUE.is("11 none such comes first", x.put(p, -1), -5);
        }
    }

    private static void told() {
        SalvageOfDays x = new SalvageOfDays();
        x.diver(3, 12);
        int[] answers = {12, 0, 0, 3, 7, 5};
        for (int what = 0; what < 6; what++) {
            DUE.is("12 told(0, " + what + ")", x.told(0, what), answers[what]);
        }
        x.cask(1, 3, 1);
        DUE.is("12 not from the quay", x.told(0, 4), 5);
        x.cask(0, 3, 2);
        DUE.is("12 not what is opened", x.told(0, 4), 4);
        x.dive(0, 2);
        DUE.is("12 brought", x.told(0, 1), 1);
        for (int what : new int[] {-1, 6, MIN, MAX}) {
            DUE.is("12 what", x.told(0, what), -7);
            DUE.is("12 none such comes first", x.told(1, what), -5);
            DUE.is("12 none such comes first", x.told(-1, what), -5);
        }
    }

    /** Rows of KIND: reach, cost in hour 0 and in hour 1 (of a cask of sort 5), breathing. */
    private static void kindsOfDivers() {
        int[][] due = {
            {41, 30, 30, 5}, {27, 30, 30, 10}, {51, 37, 37, 5},
            {34, 0, 30, 10}, {7, 37, 37, 12}, {99, 30, 30, 0}
        };
        SalvageOfDays x = new SalvageOfDays();
        for (int kind = 0; kind < 6; kind++) {
            x.diver(10 * kind + 7, 41);
            DUE.is("13 reach of " + kind, x.dives(kind, 5, 0), due[kind][0]);
            DUE.is("13 cost of " + kind, x.dives(kind, 5, 1), due[kind][1]);
            x.sky(6, 1);
            DUE.is("13 cost, hour 1, of " + kind, x.dives(kind, 5, 1), due[kind][2]);
            x.sky(6, 3);
            DUE.is("13 cost, hour 3, of " + kind, x.dives(kind, 5, 1), due[kind][2]);
            x.sky(6, 8);
            DUE.is("13 cost, hour 8, of " + kind, x.dives(kind, 5, 1), due[kind][1]);
            x.sky(6, 0);
            DUE.is("12 breathing of " + kind, x.told(kind, 5), due[kind][3]);
        }
    }

    private static void sortNull() {
        SalvageOfDays x = Due.under("reaches 5;costs deep;fades 0;");
        x.sky(6, 1);
        x.cask(6, 2, 15);
        int[] due = {15, 15, 7, 15, 7, 15};
        for (int kind = 0; kind < 6; kind++) {
            x.diver(10 * kind + 4, 50);
            DUE.is("13 cost, sort 0, of " + kind, x.dives(kind, 6, 1), due[kind]);
        }
        DUE.is("13 half of 5, cut, and 4", x.dives(1, 6, 0), 6);
        DUE.is("13 half of 5, cut, and 8", x.dives(3, 6, 0), 10);
    }

    private static void noBoundAbove() {
        SalvageOfDays x = Due.under("reaches 200;costs 200;fades 0;");
        x.diver(29, 99);
        DUE.is("13 reach 99 and 10", x.dives(0, 1, 0), 109);
        DUE.is("13 cost 99 and 9", x.dives(0, 1, 1), 108);
        DUE.is("13 it costs too much", x.dives(0, 1, 2), 0);
        DUE.is("13 of sort 0 it does not", x.dives(0, 0, 2), 1);
    }

    private static void whetherOneCan() {
        SalvageOfDays x = Due.under("reaches 20;costs 30;fades 0;");
        x.diver(0, 30);
        x.cask(1, 2, 20);
        DUE.is("13 just as deep, just as dear", x.dives(0, 1, 2), 1);
        x.cask(1, 2, 21);
        DUE.is("13 too deep", x.dives(0, 1, 2), 0);
        x.cask(1, 2, 20);
        x.put(0, 29);
        DUE.is("13 too dear", x.dives(0, 1, 2), 0);
        x.put(0, 30);
        x.cask(1, 3, 1);
        DUE.is("13 on the quay", x.dives(0, 1, 2), 0);
        DUE.is("13 reach, be it where it may", x.dives(0, 1, 0), 20);
        x.cask(1, 3, 2);
        DUE.is("13 opened", x.dives(0, 1, 2), 0);
        DUE.is("13 cost, be it where it may", x.dives(0, 1, 1), 30);
    }

    private static void divesRefuses() {
        SalvageOfDays x = new SalvageOfDays();
        DUE.is("13 no diver", x.dives(0, 0, 0), -5);
        x.diver(0, 9);
        for (int none : new int[] {-1, 12, MIN, MAX}) {
            DUE.is("13 no diver comes first", x.dives(none, 0, 9), -5);
            DUE.is("13 no cask comes first", x.dives(0, none, 9), -5);
        }
        for (int what : new int[] {-1, 3, MIN, MAX}) {
            DUE.is("13 what", x.dives(0, 0, what), -7);
        }
    }
}
