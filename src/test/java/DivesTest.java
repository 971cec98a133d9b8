/** Promises 14 to 21: dives, opening, hours, rows of dives. */
public final class DivesTest {
    private static final Due DUE = new Due("DivesTest");
    private static final int MIN = Integer.MIN_VALUE, MAX = Integer.MAX_VALUE;
    private static final int BAD = SalvageOfDays.BAD, STATE = SalvageOfDays.STATE;

    public static void main(String[] args) {
        dive();
        open();
        hour();
        hoursAsTheyAreThen();
        bay();
        run();
        stills();
        row();
        rowOfAMate();
        rowRefuses();
        salvage();
        salvageRefuses();
        DUE.end();
    }

    private static void dive() {
        SalvageOfDays x = new SalvageOfDays();
        x.diver(0, 50);
        x.diver(0, 60);
        DUE.is("14 breath then", x.dive(0, 4), 26);
        DUE.is("14 breath", x.told(0, 0), 26);
        DUE.is("14 brought", x.told(0, 1), 1);
        DUE.is("14 on the quay", x.lies(4, 3), 1);
        DUE.is("14 not again", x.dive(0, 4), STATE);
        DUE.is("14 not by another one", x.dive(1, 4), STATE);
        DUE.is("14 too dear", x.dive(0, 5), STATE);
        DUE.is("14 refused, breath stays", x.told(0, 0), 26);
        DUE.is("14 refused, it stays", x.lies(5, 3), 0);
        DUE.is("14 of no cost", x.dive(0, 0), 26);
        DUE.is("14 brought", x.told(0, 1), 2);
        DUE.is("14 others stay", x.told(1, 1), 0);
        DUE.is("14 others stay", x.told(1, 0), 60);
        for (int none : new int[] {-1, 12, MIN, MAX}) {
            DUE.is("14 no diver comes first", x.dive(none, none), -5);
            DUE.is("14 no cask", x.dive(0, none), -6);
        }
    }

    private static void open() {
        SalvageOfDays x = new SalvageOfDays();
        x.cask(7, 1, 33);
        DUE.is("15 in the wreck", x.open(7), STATE);
        x.cask(7, 3, 1);
        x.sky(1, 50);
        DUE.is("15 weather then", x.open(7), 83);
        DUE.is("15 weather", x.bay(1), 83);
        DUE.is("15 opened", x.lies(7, 3), 2);
        DUE.is("15 not again", x.open(7), STATE);
        x.cask(1, 3, 1);
        DUE.is("15 at most", x.open(1), 99);
        DUE.is("15 others stay", x.bay(0) + x.bay(2) + x.bay(3) + x.bay(4) + x.bay(5), 0);
        x.cask(2, 0, 5);
        x.cask(2, 3, 1);
        DUE.is("15 of its sort now", x.open(2), 20);
        DUE.is("15 of its sort now", x.bay(5), 20);
        for (int none : new int[] {-1, 12, MIN, MAX}) {
            DUE.is("15 no cask", x.open(none), -6);
        }
    }

    private static void hour() {
        SalvageOfDays x = new SalvageOfDays();
        int[] kinds = {0, 13, 24, 35, 46, 57};
        for (int p = 0; p < 6; p++) {
            x.diver(kinds[p], 50);
        }
        x.sky(0, 2);
        x.sky(2, 20);
        x.sky(4, 20);
        x.sky(6, 997);
        DUE.is("16 main then", x.hour(), 2);
        int[] breaths = {55, 60, 55, 60, 61, 50};
        for (int p = 0; p < 6; p++) {
            DUE.is("16 breath of " + p, x.told(p, 0), breaths[p]);
        }
        DUE.is("16 weather, 0 at least", x.bay(0), 0);
        DUE.is("16 weather", x.bay(2), 17);
        DUE.is("16 weather", x.bay(4), 17);
        DUE.is("16 hour", x.count(3), 998);
        x.sky(2, 0);
        x.sky(4, 3);
        x.put(0, 96);
        DUE.is("16 no weather then", x.hour(), -1);
        DUE.is("16 breath, 99 at most", x.told(0, 0), 99);
        String before = Due.all(x);
        DUE.is("16 the last hour", x.hour(), STATE);
        DUE.isTrue("16 refused, all stays", before.equals(Due.all(x)));
    }

    private static void hoursAsTheyAreThen() {
        SalvageOfDays x = Due.under("reaches 0;costs 0;fades hour;");
        x.sky(0, 50);
        x.sky(6, 3);
        x.hour();
        DUE.is("16 by the hour that passes", x.bay(0), 47);
        x.hour();
        DUE.is("16 by the next one", x.bay(0), 43);
        SalvageOfDays y = Due.under("reaches 0;costs 0;fades strong - 7 + sort;");
        y.sky(0, 50);
        y.sky(1, 5);
        y.sky(3, 60);
        y.hour();
        DUE.is("16 by its own weather", y.bay(0), 7);
        DUE.is("16 by its own weather", y.bay(1), 5);
        DUE.is("16 by its sort", y.bay(3), 4);
        DUE.is("16 none is less than 0", y.bay(5), 0);
    }

    private static void bay() {
        SalvageOfDays x = new SalvageOfDays();
        DUE.is("17 no main", x.bay(6), -1);
        DUE.is("17 fair", x.bay(7), 0);
        int[] sky = {10, 31, 7, 22, 31, 9};
        for (int t = 0; t < 6; t++) {
            x.sky(t, sky[t]);
        }
        for (int t = 0; t < 6; t++) {
            DUE.is("17 bay(" + t + ")", x.bay(t), sky[t]);
        }
        DUE.is("17 main, of like ones the first", x.bay(6), 1);
        DUE.is("17 fair", x.bay(7), 10 + 22 - 7 - 18);
        x.sky(5, 32);
        DUE.is("17 main", x.bay(6), 5);
        DUE.is("17 fair, below 0", x.bay(7), 10 + 22 - 7 - 64);
        for (int what : new int[] {-1, 8, 10, MIN, MAX}) {
            DUE.is("17 what", x.bay(what), -1000);
        }
    }

    private static void run() {
        SalvageOfDays x = Due.under("reaches 0;costs 0;fades hour - 998;");
        x.sky(0, 50);
        x.sky(2, 45);
        x.sky(6, 999);
        x.diver(0, 70);
        x.diver(44, 70);
        String before = Due.all(x);
        DUE.is("18 of no hours", x.run(0, 0), 50);
        DUE.is("18 the hour passes 999", x.run(3, 0), 44);
        DUE.is("18 weather", x.run(3, 2), 39);
        DUE.is("18 main", x.run(3, 6), 0);
        DUE.is("18 fair", x.run(3, 7), 5);
        DUE.is("18 breath", x.run(3, 10), 85);
        DUE.is("18 breath", x.run(3, 11), 97);
        DUE.is("18 breath, at most", x.run(40, 10), 99);
        DUE.is("18 no main", x.run(40, 6), -1);
        DUE.isTrue("18 in thought", before.equals(Due.all(x)));
        for (int n : new int[] {-1, 41, MIN, MAX}) {
            DUE.is("18 n", x.run(n, 0), -1000);
        }
        for (int what : new int[] {-1, 8, 9, 12, MIN, MAX}) {
            DUE.is("18 what", x.run(1, what), -1000);
        }
    }

    private static void stills() {
        SalvageOfDays x = Due.under("reaches 0;costs 0;fades 1;");
        DUE.is("19 none is now", x.stills(), 0);
        x.sky(3, 1);
        DUE.is("19 behind one", x.stills(), 1);
        x.sky(5, 60);
        DUE.is("19 behind 60", x.stills(), 60);
        x.sky(1, 61);
        DUE.is("19 not by then", x.stills(), -1);
        DUE.is("19 in thought", x.bay(1), 61);
        x.force(0);
        DUE.is("19 by three", x.stills(), 21);
        DUE.is("19 in thought", x.count(3), 0);
    }

    private static void row() {
        SalvageOfDays x = new SalvageOfDays();
        x.diver(0, 20);
        x.cask(9, 3, 1);
        Due.sheet(x, 1, 2, 2, 4, 0);
        String before = Due.all(x);
        DUE.is("20 on the quay", x.row(1, 0, 0), 1 + 4 + 512);
        DUE.is("20 brings up", x.row(1, 0, 1), 2);
        DUE.is("20 breath", x.row(1, 0, 2), 18);
        DUE.is("20 hours", x.row(1, 0, 3), 2);
        Due.sheet(x, 2);
        DUE.is("20 none, on the quay", x.row(2, 0, 0), 512);
        DUE.is("20 none, brings up", x.row(2, 0, 1), 0);
        DUE.is("20 none, breath", x.row(2, 0, 2), 20);
        DUE.is("20 none, hours", x.row(2, 0, 3), 0);
        DUE.isTrue("20 in thought", before.equals(Due.all(x)));
        x.sky(6, 999);
        DUE.is("20 hours above 999", x.row(1, 0, 3), 2);
    }

    private static void rowOfAMate() {
        SalvageOfDays x = new SalvageOfDays();
        x.diver(30, 10);
        x.sky(6, 3);
        Due.sheet(x, 0, 1, 1, 2);
        DUE.is("20 the hour counts, breath", x.row(0, 0, 2), 14);
        DUE.is("20 the hour counts, quay", x.row(0, 0, 0), 6);
    }

    private static void rowRefuses() {
        SalvageOfDays x = new SalvageOfDays();
        x.diver(0, 20);
        for (int s : new int[] {-1, 4, MIN, MAX}) {
            DUE.is("20 sheet", x.row(s, 9, 9), BAD);
        }
        DUE.is("20 nothing there", x.row(0, 9, 9), -11);
        Due.sheet(x, 0, 0, 12);
        DUE.is("20 no cask comes ahead", x.row(0, 9, 9), BAD);
        Due.sheet(x, 0, -1, 11);
        DUE.is("20 no cask comes ahead", x.row(0, 9, 9), BAD);
        Due.sheet(x, 0, 0, 11);
        DUE.is("20 no diver comes ahead", x.row(0, 1, 9), -5);
        DUE.is("20 no diver comes ahead", x.row(0, -1, 9), -5);
        for (int what : new int[] {-1, 4, MIN, MAX}) {
            DUE.is("20 what", x.row(0, 0, what), -7);
        }
    }

    private static void salvage() {
        SalvageOfDays x = new SalvageOfDays();
        x.diver(0, 20);
        x.diver(10, 50);
        x.sky(1, 50);
        Due.sheet(x, 1, 2, 2, 4, 0);
        DUE.is("21 brings up", x.salvage(1, 0), 2);
        DUE.is("21 breath", x.told(0, 0), 18);
        DUE.is("21 brought", x.told(0, 1), 2);
        DUE.is("21 another one's breath", x.told(1, 0), 70);
        DUE.is("21 hour", x.count(3), 2);
        DUE.is("21 weather", x.bay(1), 44);
        DUE.is("21 on the quay", x.lies(2, 3), 1);
        DUE.is("21 on the quay", x.lies(0, 3), 1);
        DUE.is("21 in the wreck", x.lies(4, 3), 0);
        x.sheet(1, 0, 0);
        DUE.is("21 none", x.salvage(1, 0), 0);
    }

    private static void salvageRefuses() {
        SalvageOfDays x = new SalvageOfDays();
        x.diver(0, 99);
        x.sky(6, 999);
        for (int s : new int[] {-1, 4, MIN, MAX}) {
            DUE.is("21 sheet", x.salvage(s, 9), BAD);
        }
        DUE.is("21 nothing there", x.salvage(0, 9), -11);
        Due.sheet(x, 0, 0, 12);
        DUE.is("21 no cask comes ahead", x.salvage(0, 9), BAD);
        Due.sheet(x, 0, 0, 1);
        DUE.is("21 no diver comes ahead", x.salvage(0, 1), -5);
        x.sky(6, 998);
        DUE.is("21 above 999", x.salvage(0, 0), STATE);
        DUE.is("21 refused, all stays", x.count(2), 0);
        x.sky(6, 997);
        DUE.is("21 not above 999", x.salvage(0, 0), 2);
        x.sky(6, 999);
        x.sheet(0, 0, 0);
        DUE.is("21 none at 999", x.salvage(0, 0), 0);
    }
}
