/** Promises 22 to 26: what is best. */
public final class BestTest {
    private static final Due DUE = new Due("BestTest");
    private static final int MIN = Integer.MIN_VALUE, MAX = Integer.MAX_VALUE;

    public static void main(String[] args) {
        which();
        whichBehindHours();
        cargo();
        cargoOfAll();
        last();
        lastOfWays();
        lastRefuses();
        best();
        share();
        DUE.end();
    }

    private static void which() {
        SalvageOfDays x = new SalvageOfDays();
        DUE.is("22 none on the quay", x.which(0, 0), -1);
        x.sky(3, 10);
        DUE.is("22 as so", x.which(0, 1), 10);
        x.cask(1, 3, 1);
        x.cask(2, 3, 1);
        x.cask(5, 3, 1);
        DUE.is("22 none is more than so", x.which(0, 0), -1);
        DUE.is("22 as so", x.which(0, 1), 10);
        x.cask(9, 3, 1);
        DUE.is("22 a cask of sun", x.which(0, 0), 9);
        DUE.is("22 how fair", x.which(0, 1), 30);
        x.cask(6, 3, 1);
        DUE.is("22 of like ones the first", x.which(0, 0), 6);
        x.cask(3, 3, 1);
        DUE.is("22 of like ones the first", x.which(0, 0), 3);
        x.cask(0, 3, 2);
        DUE.is("22 not what is opened", x.which(0, 0), 3);
        x.cask(9, 1, 21);
        DUE.is("22 the fairest", x.which(0, 0), 9);
        x.sky(3, 95);
        DUE.is("22 at most 99", x.which(0, 0), 6);
        DUE.is("22 at most 99", x.which(0, 1), 115);
        DUE.is("22 in thought", x.bay(0), 0);
        DUE.is("22 in thought", x.lies(6, 3), 1);
        for (int bad : new int[] {-1, 41, MIN, MAX}) {
            DUE.is("22 n", x.which(bad, 0), -1000);
            DUE.is("22 what", x.which(0, bad), -1000);
        }
        DUE.is("22 what", x.which(0, 2), -1000);
    }

    private static void whichBehindHours() {
        SalvageOfDays x = Due.under("reaches 0;costs 0;fades (sort = 0) * 9;");
        x.cask(0, 1, 30);
        x.cask(0, 3, 1);
        x.cask(3, 3, 1);
        DUE.is("22 now", x.which(0, 0), 0);
        DUE.is("22 behind one", x.which(1, 0), 0);
        DUE.is("22 behind two", x.which(2, 0), 3);
        DUE.is("22 behind two", x.which(2, 1), 20);
        x.force(0);
        DUE.is("22 behind seven", x.which(7, 0), 0);
        DUE.is("22 behind seven", x.which(7, 1), 9);
        DUE.is("22 behind ten nothing is more", x.which(10, 0), -1);
        DUE.is("22 behind forty", x.which(40, 1), 0);
    }

    private static void cargo() {
        SalvageOfDays x = new SalvageOfDays();
        DUE.is("23 none", x.cargo(999, 0), 0);
        x.cask(1, 3, 1);
        x.cask(2, 3, 1);
        x.cask(3, 3, 1);
        x.cask(4, 3, 2);
        DUE.is("23 no room", x.cargo(2, 0), 0);
        DUE.is("23 no room", x.cargo(2, 1), 0);
        DUE.is("23 just room", x.cargo(9, 0), 6);
        DUE.is("23 just room", x.cargo(9, 1), 40);
        DUE.is("23 not just room", x.cargo(8, 0), 2);
        DUE.is("23 all three", x.cargo(18, 0), 14);
        DUE.is("23 not what is opened", x.cargo(999, 1), 60);
        x.cask(1, 1, 10);
        x.cask(3, 1, 30);
        DUE.is("23 of like ones the least", x.cargo(9, 0), 6);
        x.cask(3, 1, 31);
        DUE.is("23 the strongest", x.cargo(9, 0), 8);
        DUE.is("23 the strongest", x.cargo(9, 1), 31);
        x.cask(0, 1, 0);
        x.cask(0, 3, 1);
        DUE.is("23 no more bits than it takes", x.cargo(9, 0), 8);
        x.cask(0, 1, 1);
        DUE.is("23 no room at all", x.cargo(0, 0), 1);
        for (int room : new int[] {-1, 1000, MIN, MAX}) {
            DUE.is("23 room", x.cargo(room, 0), SalvageOfDays.BAD);
        }
        for (int what : new int[] {-1, 2, MIN, MAX}) {
            DUE.is("23 what", x.cargo(0, what), SalvageOfDays.BAD);
        }
    }

    private static void cargoOfAll() {
        SalvageOfDays x = new SalvageOfDays();
        for (int k = 0; k < 12; k++) {
            x.cask(k, 3, 1);
            x.cask(k, 1, 99);
            x.cask(k, 2, 99);
        }
        DUE.is("23 ten of twelve", x.cargo(999, 0), 1023);
        DUE.is("23 ten of twelve", x.cargo(999, 1), 990);
        x.cask(11, 2, 9);
        DUE.is("23 and one light one", x.cargo(999, 0), 1023 | 2048);
    }

    private static void last() {
        SalvageOfDays x = new SalvageOfDays();
        x.diver(0, 50);
        DUE.is("24 just this one", x.last(0, 2, 0), 38);
        DUE.is("24 with one", x.last(0, 2, 1), 38);
        DUE.is("24 with two", x.last(0, 2, 2), 32);
        DUE.is("24 with three", x.last(0, 2, 3), 14);
        DUE.is("24 this one is the first", x.last(0, 0, 1), 44);
        DUE.is("24 too deep", x.last(0, 11, 0), -1);
        x.cask(0, 3, 1);
        DUE.is("24 not with one from the quay", x.last(0, 2, 1), 32);
        DUE.is("24 not one from the quay", x.last(0, 0, 0), -1);
        x.put(0, 12);
        DUE.is("24 just so much breath", x.last(0, 2, 0), 0);
        DUE.is("24 not so much breath", x.last(0, 2, 1), -1);
        for (int k = 1; k < 12; k++) {
            x.cask(k, 3, 2);
        }
        x.cask(1, 3, 0);
        DUE.is("24 just so many others", x.last(0, 1, 1), -1);
        DUE.is("24 none other", x.last(0, 1, 0), 6);
        DUE.is("24 in thought", x.told(0, 0), 12);
        DUE.is("24 in thought", x.lies(1, 3), 0);
    }

    /** One of two ways leaves more: the wind must come up while there's breath enough. */
    private static void lastOfWays() {
        String law = "reaches 99;costs (sort=1)*(breath<30)*20+(sort=2)*25;fades 0;";
        for (int first = 1; first <= 2; first++) {
            SalvageOfDays x = Due.under(law);
            x.diver(0, 50);
            for (int k = 0; k < 12; k++) {
                x.cask(k, 3, k >= 1 && k <= 3 ? 0 : 2);
            }
            x.cask(first, 0, 1);
            x.cask(3 - first, 0, 2);
            DUE.is("24 of two ways, wind in " + first, x.last(0, 3, 2), 25);
            DUE.is("24 the wind as the last", x.last(0, first, 2), 5);
            DUE.is("24 the rain as the last", x.last(0, 3 - first, 2), 25);
        }
    }

    private static void lastRefuses() {
        SalvageOfDays x = new SalvageOfDays();
        DUE.is("24 no diver", x.last(0, 12, 4), -5);
        x.diver(0, 50);
        for (int none : new int[] {-1, 12, MIN, MAX}) {
            DUE.is("24 no diver comes first", x.last(none, none, none), -5);
            DUE.is("24 no cask comes ahead", x.last(0, none, none), -6);
            DUE.is("24 others", x.last(0, 0, none), -7);
        }
        DUE.is("24 others", x.last(0, 0, 4), -7);
    }

    private static void best() {
        SalvageOfDays x = new SalvageOfDays();
        DUE.is("25 nobody", x.best(0), -1);
        DUE.is("25 nobody", x.best(1), 0);
        x.cask(0, 3, 1);
        x.diver(0, 0);
        DUE.is("25 nobody any", x.best(0), -1);
        DUE.is("25 nobody any", x.best(1), 0);
        x.diver(0, 13);
        x.diver(0, 12);
        x.diver(0, 11);
        DUE.is("25 of like ones the first", x.best(0), 1);
        DUE.is("25 how many", x.best(1), 2);
        x.put(3, 18);
        DUE.is("25 who", x.best(0), 3);
        DUE.is("25 how many", x.best(1), 3);
        x.put(0, 18);
        DUE.is("25 of like ones the first", x.best(0), 0);
        x.put(0, 24);
        DUE.is("25 how many", x.best(1), 4);
        for (int what : new int[] {-1, 2, MIN, MAX}) {
            DUE.is("25 what", x.best(what), SalvageOfDays.BAD);
        }
    }

    private static void share() {
        SalvageOfDays x = new SalvageOfDays();
        long no = SalvageOfDays.NO;
        DUE.is("26 no weather", x.share(0, 0), no);
        x.sky(0, 20);
        DUE.is("26 all of it", x.share(0, 0), 1);
        DUE.is("26 all of it", x.share(0, 1), 1);
        x.sky(5, 30);
        DUE.is("26 above", x.share(0, 0), 2);
        DUE.is("26 below", x.share(0, 1), 5);
        DUE.is("26 above", x.share(5, 0), 3);
        DUE.is("26 below", x.share(5, 1), 5);
        DUE.is("26 none of it, above", x.share(1, 0), 0);
        DUE.is("26 none of it, below", x.share(1, 1), 1);
        x.sky(3, 7);
        DUE.is("26 lowest terms already", x.share(0, 0), 20);
        DUE.is("26 lowest terms already", x.share(0, 1), 57);
        for (int bad : new int[] {-1, 6, MIN, MAX}) {
            DUE.is("26 sort", x.share(bad, 0), no);
            DUE.is("26 part", x.share(0, bad), no);
        }
        DUE.is("26 part", x.share(0, 2), no);
        for (int t = 0; t < 6; t++) {
            x.sky(t, 99);
        }
        DUE.is("26 a sixth", x.share(4, 0), 1);
        DUE.is("26 a sixth", x.share(4, 1), 6);
    }
}
