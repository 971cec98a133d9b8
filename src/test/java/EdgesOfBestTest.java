/** Edges of promises 22 to 26: what is best. */
public final class EdgesOfBestTest extends Edges {
    public static void main(String[] args) {
        run(EdgesOfBestTest.class, 22, 26);
    }

    // ---- 22, which

    static void promise22NIs0To40() {
        SalvageOfDays x = Due.under("reaches 0;costs 0;fades 1;");
        x.sky(0, 20);
        toQuay(x, 3);
        x.cask(3, 1, 60);
        is("none", x.which(0, 1), 80);
        is("the most", x.which(40, 1), 20);
        is("the most", x.which(40, 0), 3);
        for (int n : beyond(0, 40)) {
            is("n " + n, x.which(n, 0), UNKNOWN);
            is("n " + n, x.which(n, 1), UNKNOWN);
        }
    }

    static void promise22WhatIs0Or1() {
        for (int what : beyond(0, 1)) {
            is("what " + what, fresh().which(0, what), UNKNOWN);
        }
    }

    static void promise22NothingOnTheQuay() {
        SalvageOfDays x = fresh();
        is("none", x.which(0, 0), NONE);
        is("fair", x.which(0, 1), 0);
        skyOf(x, 9, 0, 5, 0, 0, 50);
        allTo(x, 2);
        is("none", x.which(1, 0), NONE);
        is("fair as so, below 0", x.which(1, 1), 6 - 2 - 94);
    }

    static void promise22FromTheQuayAlone() {
        SalvageOfDays x = fresh();
        x.cask(0, 3, 0);
        x.cask(3, 3, 2);
        toQuay(x, 6);
        x.cask(6, 1, 1);
        is("the cask", x.which(0, 0), 6);
        is("fair", x.which(0, 1), 1);
    }

    static void promise22TheFirstAndTheLastCask() {
        for (int k : new int[] {0, 1, 10, 11}) {
            SalvageOfDays x = fresh();
            allTo(x, 1);
            for (int other = 0; other < 12; other++) {
                x.cask(other, 0, 4);
            }
            x.cask(k, 0, 3);
            is("the cask", x.which(0, 0), k);
            is("fair", x.which(1, 1), 17);
        }
    }

    static void promise22IfMoreThanSo() {
        SalvageOfDays x = fresh();
        toQuay(x, 1, 4);
        is("wind and haze don't matter", x.which(0, 0), NONE);
        toQuay(x, 2, 5);
        is("rain and storm are less", x.which(0, 0), NONE);
        is("so it stays", x.which(0, 1), 0);
        toQuay(x, 0);
        x.cask(0, 1, 0);
        is("no more than so", x.which(0, 0), NONE);
        x.cask(0, 1, 1);
        is("one more than so", x.which(0, 0), 0);
        is("one more than so", x.which(0, 1), 1);
    }

    static void promise22OfLikeOnesTheFirst() {
        SalvageOfDays x = fresh();
        toQuay(x, 3, 6, 9);
        is("the first", x.which(0, 0), 3);
        x.cask(9, 1, 21);
        is("one that is more", x.which(0, 0), 9);
        x.cask(0, 3, 1);
        x.cask(0, 1, 21);
        is("the first", x.which(0, 0), 0);
    }

    static void promise22OfLikeOnesBehindHours() {
        SalvageOfDays x = Due.under("reaches 0;costs 0;fades 99*(sort=0)+99*(sort=3);");
        toQuay(x, 0, 3);
        is("all has faded", x.which(1, 0), NONE);
        is("now", x.which(0, 0), 0);
    }

    static void promise22WeatherIs99AtMost() {
        SalvageOfDays x = fresh();
        skyOf(x, 90, 0, 0, 85);
        toQuay(x, 0, 3);
        is("9 more are less than 14 more", x.which(0, 0), 3);
        is("fair", x.which(0, 1), 189);
        x.sky(0, 99);
        x.sky(3, 99);
        is("no more than so", x.which(0, 0), NONE);
    }

    static void promise22FairMayBeBelow0() {
        SalvageOfDays x = fresh();
        x.sky(5, 99);
        toQuay(x, 0);
        is("the cask", x.which(0, 0), 0);
        is("fair", x.which(0, 1), 20 - 198);
    }

    static void promise22InThoughtTheHourPasses999() {
        SalvageOfDays x = Due.under(BY_LATE_HOURS);
        x.sky(6, 999);
        toQuay(x, 3);
        is("behind 3", x.which(3, 1), 14);
        is("behind 6", x.which(6, 0), NONE);
        is("the hour stays", x.count(3), 999);
        is("on the quay", x.lies(3, 3), 1);
        is("weather stays", x.bay(3), 0);
    }

    // ---- 23, cargo

    static void promise23RoomIs0To999() {
        SalvageOfDays x = fresh();
        for (int room : beyond(0, 999)) {
            is("room " + room, x.cargo(room, 0), BAD);
            is("room " + room, x.cargo(room, 1), BAD);
        }
        is("the least", x.cargo(0, 0), 0);
        is("the most", x.cargo(999, 0), 0);
    }

    static void promise23WhatIs0Or1() {
        for (int what : beyond(0, 1)) {
            is("what " + what, fresh().cargo(0, what), BAD);
        }
    }

    static void promise23NothingOnTheQuay() {
        SalvageOfDays x = fresh();
        is("no bits", x.cargo(999, 0), 0);
        is("not strong", x.cargo(999, 1), 0);
        allTo(x, 2);
        is("opened ones don't count", x.cargo(999, 0), 0);
    }

    static void promise23NoneIsASetToo() {
        SalvageOfDays x = fresh();
        toQuay(x, 1);
        is("no room", x.cargo(2, 0), 0);
        is("no room", x.cargo(2, 1), 0);
        is("just room", x.cargo(3, 0), 2);
    }

    static void promise23NoMoreDeepThanRoomTogether() {
        SalvageOfDays x = fresh();
        toQuay(x, 9, 10, 11);
        is("just room for all", x.cargo(27 + 30 + 33, 0), 7 << 9);
        is("one less", x.cargo(27 + 30 + 33 - 1, 0), 3 << 9);
        is("just room for two", x.cargo(57, 1), 40);
        is("one less", x.cargo(56, 1), 20);
    }

    static void promise23NoRoomButForWhatLiesNotDeep() {
        SalvageOfDays x = fresh();
        allTo(x, 1);
        is("cask 0 alone", x.cargo(0, 0), 1);
        x.cask(7, 2, 0);
        is("and cask 7", x.cargo(0, 0), 1 + 128);
        is("how strong", x.cargo(0, 1), 40);
    }

    static void promise23OfLikeOnesTheLeastAsBits() {
        SalvageOfDays x = fresh();
        toQuay(x, 2, 3, 5);
        x.cask(5, 2, 6);
        x.cask(3, 2, 6);
        is("one of three", x.cargo(6, 0), 4);
        is("two of three", x.cargo(12, 0), 4 + 8);
        x.cask(5, 1, 40);
        is("one as strong as the other two", x.cargo(11, 0), 32);
        x.cask(2, 2, 3);
        x.cask(3, 2, 3);
        is("the other two are less as bits", x.cargo(6, 0), 4 + 8);
    }

    static void promise23WhatIsNotStrongIsLeft() {
        SalvageOfDays x = fresh();
        toQuay(x, 0, 1);
        x.cask(0, 1, 0);
        is("cask 0 adds nothing", x.cargo(999, 0), 2);
        x.cask(1, 1, 0);
        is("nor does cask 1", x.cargo(999, 0), 0);
        is("not strong", x.cargo(999, 1), 0);
    }

    static void promise23AllTwelve() {
        SalvageOfDays x = fresh();
        allTo(x, 1);
        is("all", x.cargo(198, 0), 4095);
        is("how strong", x.cargo(198, 1), 240);
        for (int k = 0; k < 12; k++) {
            x.cask(k, 1, 99);
            x.cask(k, 2, 99);
        }
        is("ten have room, the first ten", x.cargo(999, 0), 1023);
        is("how strong", x.cargo(999, 1), 990);
        is("nine", x.cargo(989, 1), 891);
        x.cask(0, 2, 9);
        is("nine of 99 and one of 9", x.cargo(900, 1), 990);
    }

    // ---- 24, last

    static void promise24RefusalsInTheirOrder() {
        SalvageOfDays x = fresh();
        is("no diver yet", x.last(0, 12, 4), NO_SUCH);
        x.diver(0, 50);
        for (int p : beyond(0, 0)) {
            is("no diver first", x.last(p, 12, 4), NO_SUCH);
        }
        for (int k : beyond(0, 11)) {
            is("no cask next", x.last(0, k, 4), NO_CASK);
        }
        for (int others : beyond(0, 3)) {
            is("others at last", x.last(0, 0, others), NOT_SO);
        }
    }

    static void promise24NoneOther() {
        SalvageOfDays x = fresh();
        x.diver(0, 50);
        is("this one", x.last(0, 5, 0), 20);
        is("as deep as can be", x.last(0, 8, 0), 2);
        is("too dear", x.last(0, 9, 0), NONE);
        is("the first", x.last(0, 0, 0), 50);
        x.put(0, 99);
        is("the last", x.last(0, 11, 0), 33);
    }

    static void promise24JustSoManyOthers() {
        SalvageOfDays x = fresh();
        x.diver(0, 90);
        allTo(x, 2);
        for (int k : new int[] {1, 2, 3, 4}) {
            x.cask(k, 3, 0);
        }
        is("none", x.last(0, 4, 0), 66);
        is("one", x.last(0, 4, 1), 60);
        is("two", x.last(0, 4, 2), 48);
        is("three", x.last(0, 4, 3), 30);
        x.cask(1, 3, 1);
        is("there aren't three", x.last(0, 4, 3), NONE);
        is("two", x.last(0, 4, 2), 36);
    }

    static void promise24NoneIsBroughtUpTwice() {
        SalvageOfDays x = Due.under(ALL_STAYS);
        x.diver(0, 7);
        allTo(x, 1);
        x.cask(6, 3, 0);
        x.cask(7, 3, 0);
        is("one other", x.last(0, 6, 1), 7);
        is("not the other one twice", x.last(0, 6, 2), NONE);
        is("nor this one", x.last(0, 7, 2), NONE);
    }

    static void promise24ThisOneMustBeInTheWreck() {
        SalvageOfDays x = Due.under(ALL_STAYS);
        x.diver(0, 7);
        for (int others = 0; others <= 3; others++) {
            x.cask(3, 3, 0);
            is("in the wreck", x.last(0, 3, others), 7);
            x.cask(3, 3, 1);
            is("on the quay", x.last(0, 3, others), NONE);
            x.cask(3, 3, 2);
            is("opened", x.last(0, 3, others), NONE);
        }
    }

    static void promise24BreathToTheLast() {
        SalvageOfDays x = fresh();
        x.diver(0, 36);
        is("0 is left", x.last(0, 3, 3), 0);
        x.put(0, 35);
        is("one too few", x.last(0, 3, 3), NONE);
        x.put(0, 0);
        is("of no cost", x.last(0, 0, 0), 0);
        is("with one other", x.last(0, 0, 1), NONE);
    }

    static void promise24NoHourPasses() {
        SalvageOfDays x = fresh();
        x.diver(0, 17);
        allTo(x, 2);
        x.cask(1, 3, 0);
        x.cask(2, 3, 0);
        is("breath for both, but for one", x.last(0, 2, 1), NONE);
        x.put(0, 18);
        is("breath for both", x.last(0, 2, 1), 0);
    }

    static void promise24TheMostOfAllWays() {
        SalvageOfDays x = Due.under("reaches 99;costs (breath<50)*sort;fades 0;");
        x.diver(0, 52);
        allTo(x, 2);
        x.cask(7, 3, 0);
        x.cask(8, 3, 0);
        is("all's free above 49", x.last(0, 7, 1), 52);
        x.put(0, 49);
        is("in each order alike", x.last(0, 7, 1), 46);
        SalvageOfDays y = Due.under("reaches 99;costs (sort=1)*9+(sort=2)*(breath=40)*7;fades 0;");
        y.diver(0, 49);
        allTo(y, 2);
        y.cask(1, 3, 0);
        y.cask(2, 3, 0);
        y.cask(3, 3, 0);
        is("the rain ahead of the wind", y.last(0, 3, 2), 40);
        is("the rain behind the sun, not the wind", y.last(0, 2, 1), 49);
        is("the rain behind both", y.last(0, 2, 2), 33);
    }

    static void promise24ADeepOneAheadWhileBreathReaches() {
        SalvageOfDays x = Due.under("reaches breath;costs 10;fades 0;");
        x.diver(0, 40);
        allTo(x, 2);
        x.cask(10, 3, 0);
        x.cask(11, 3, 0);
        is("33 deep, then 30", x.last(0, 10, 1), 20);
        is("30 deep, then not 33", x.last(0, 11, 1), NONE);
    }

    static void promise24NothingChanges() {
        SalvageOfDays x = fresh();
        x.diver(0, 90);
        x.last(0, 4, 3);
        is("breath", x.told(0, 0), 90);
        is("brought", x.told(0, 1), 0);
        is("in the wreck", x.count(1), 12);
        is("hour", x.count(3), 0);
    }

    // ---- 25, best

    static void promise25WhatIs0Or1() {
        for (int what : beyond(0, 1)) {
            is("what " + what, fresh().best(what), BAD);
        }
    }

    static void promise25NoDiverYet() {
        is("who", fresh().best(0), NONE);
        is("how many", fresh().best(1), 0);
    }

    static void promise25NobodyCanAny() {
        SalvageOfDays x = fresh();
        x.diver(0, 99);
        x.diver(0, 99);
        allTo(x, 1);
        is("who", x.best(0), NONE);
        is("how many", x.best(1), 0);
        x.cask(11, 3, 0);
        is("who", x.best(0), 0);
        is("how many", x.best(1), 1);
    }

    static void promise25OfLikeOnesTheFirst() {
        SalvageOfDays x = fresh();
        for (int p = 0; p < 6; p++) {
            x.diver(0, 30);
        }
        is("all alike", x.best(0), 0);
        x.put(0, 29);
        is("the first of the others", x.best(0), 1);
        x.put(5, 36);
        is("the last is more", x.best(0), 5);
        is("how many", x.best(1), 7);
    }

    static void promise25OneBehindThatCanFewerDoesNotMatter() {
        SalvageOfDays x = fresh();
        x.diver(0, 50);
        x.diver(0, 20);
        x.diver(0, 0);
        is("who", x.best(0), 0);
        is("how many", x.best(1), 9);
        x.put(1, 60);
        is("who", x.best(0), 1);
        is("how many", x.best(1), 11);
    }

    static void promise25UpToTwelve() {
        SalvageOfDays x = fresh();
        x.diver(0, 65);
        x.diver(0, 66);
        is("who", x.best(0), 1);
        is("how many", x.best(1), 12);
    }

    // ---- 26, share

    static void promise26SortsAre0To5() {
        SalvageOfDays x = fresh();
        skyOf(x, 1, 1, 1, 1, 1, 1);
        for (int t : beyond(0, 5)) {
            is("sort " + t, x.share(t, 0), NO);
            is("sort " + t, x.share(t, 1), NO);
        }
        is("the first", x.share(0, 1), 6);
        is("the last", x.share(5, 1), 6);
    }

    static void promise26PartIs0Or1() {
        SalvageOfDays x = fresh();
        x.sky(0, 5);
        for (int part : beyond(0, 1)) {
            is("part " + part, x.share(0, part), NO);
        }
    }

    static void promise26NoWeatherOfAny() {
        SalvageOfDays x = fresh();
        for (int t = 0; t < 6; t++) {
            is("above", x.share(t, 0), NO);
            is("below", x.share(t, 1), NO);
        }
        x.sky(5, 1);
        is("as soon as there is any", x.share(0, 0), 0);
    }

    static void promise26NoneAndAllOfIt() {
        SalvageOfDays x = fresh();
        x.sky(3, 99);
        is("none, above", x.share(2, 0), 0);
        is("none, below", x.share(2, 1), 1);
        is("all, above", x.share(3, 0), 1);
        is("all, below", x.share(3, 1), 1);
    }

    static void promise26InLowestTerms() {
        SalvageOfDays x = fresh();
        skyOf(x, 99, 99, 99, 99, 99, 99);
        is("99 of 594, above", x.share(4, 0), 1);
        is("99 of 594, below", x.share(4, 1), 6);
        skyOf(x, 98, 99, 99, 99, 99, 99);
        is("98 of 593, above", x.share(0, 0), 98);
        is("98 of 593, below", x.share(0, 1), 593);
        skyOf(x, 0, 0, 0, 0, 84, 36);
        is("84 of 120, above", x.share(4, 0), 7);
        is("84 of 120, below", x.share(4, 1), 10);
        is("36 of 120, above", x.share(5, 0), 3);
        skyOf(x, 55, 34, 0, 0, 0, 0);
        is("55 of 89, above", x.share(0, 0), 55);
        is("55 of 89, below", x.share(0, 1), 89);
    }
}
