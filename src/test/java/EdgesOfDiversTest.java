/** Edges of promises 10 to 13: divers, kinds, who can bring up what. */
public final class EdgesOfDiversTest extends Edges {
    public static void main(String[] args) {
        run(EdgesOfDiversTest.class, 10, 13);
    }

    // ---- 10, diver

    static void promise10KindMoreIs0To59() {
        SalvageOfDays x = fresh();
        for (int kindMore : beyond(0, 59)) {
            is("kindMore " + kindMore, x.diver(kindMore, 0), BAD);
        }
        is("none came", x.count(0), 0);
        is("the least", x.diver(0, 0), 0);
        is("the most", x.diver(59, 0), 1);
        is("kind of the most", x.told(1, 2), 5);
        is("more of the most", x.told(1, 3), 9);
    }

    static void promise10MuchIs0To99() {
        SalvageOfDays x = fresh();
        for (int much : beyond(0, 99)) {
            is("much " + much, x.diver(0, much), BAD);
        }
        is("none came", x.count(0), 0);
        is("the least", x.diver(0, 0), 0);
        is("the most", x.diver(0, 99), 1);
        is("breath", x.told(0, 0), 0);
        is("breath", x.told(1, 0), 99);
    }

    static void promise10KindIs10TimesAndMoreIsTheRest() {
        for (int kindMore = 0; kindMore < 60; kindMore++) {
            SalvageOfDays x = fresh();
            x.diver(kindMore, 1);
            is("kind of " + kindMore, x.told(0, 2), kindMore / 10);
            is("more of " + kindMore, x.told(0, 3), kindMore % 10);
        }
    }

    static void promise10NumbersAreFrom0To5() {
        SalvageOfDays x = fresh();
        for (int p = 0; p < 6; p++) {
            is("number", x.diver(11 * p, 10 + p), p);
        }
        for (int p = 0; p < 6; p++) {
            is("breath of " + p, x.told(p, 0), 10 + p);
        }
    }

    static void promise10NoRoomForASeventh() {
        SalvageOfDays x = fresh();
        for (int p = 0; p < 6; p++) {
            x.diver(0, p);
        }
        is("the seventh", x.diver(59, 99), FULL);
        is("how many", x.count(0), 6);
        is("there's no such one", x.told(6, 0), NO_SUCH);
        for (int p = 0; p < 6; p++) {
            is("breath of " + p, x.told(p, 0), p);
            is("kind of " + p, x.told(p, 2), 0);
        }
    }

    static void promise10BadComesAheadOfFull() {
        SalvageOfDays x = fresh();
        for (int p = 0; p < 6; p++) {
            x.diver(0, 0);
        }
        is("kindMore", x.diver(60, 0), BAD);
        is("kindMore", x.diver(-1, 0), BAD);
        is("much", x.diver(0, 100), BAD);
        is("much", x.diver(0, -1), BAD);
    }

    static void promise10Brought0AsOneComes() {
        SalvageOfDays x = fresh();
        x.image();
        x.diver(0, 50);
        x.dive(0, 1);
        is("the first brought one", x.told(0, 1), 1);
        x.back();
        x.diver(0, 50);
        is("who comes at the same place none", x.told(0, 1), 0);
    }

    // ---- 11, put

    static void promise11OfOneThatIsThere() {
        SalvageOfDays x = fresh();
        is("no diver yet", x.put(0, 1), NO_SUCH);
        x.diver(0, 11);
        x.diver(0, 22);
        is("the first", x.put(0, 5), 11);
        is("the last", x.put(1, 6), 22);
        for (int p : beyond(0, 1)) {
            is("p " + p, x.put(p, 1), NO_SUCH);
        }
        is("the first", x.told(0, 0), 5);
        is("the last", x.told(1, 0), 6);
    }

    static void promise11VIs0To99() {
        SalvageOfDays x = fresh();
        x.diver(0, 50);
        for (int v : beyond(0, 99)) {
            is("v " + v, x.put(0, v), NOT_SO);
        }
        is("it stays", x.told(0, 0), 50);
        is("the most", x.put(0, 99), 50);
        is("the least", x.put(0, 0), 99);
        is("it is", x.told(0, 0), 0);
    }

    static void promise11NoneSuchComesFirst() {
        is("ahead of v", fresh().put(0, 100), NO_SUCH);
        is("ahead of v", fresh().put(-1, -1), NO_SUCH);
    }

    // ---- 12, told

    static void promise12OfOneThatIsThere() {
        SalvageOfDays x = fresh();
        is("no diver yet", x.told(0, 0), NO_SUCH);
        for (int p = 0; p < 6; p++) {
            x.diver(0, 40 + p);
            is("the last", x.told(p, 0), 40 + p);
            is("one behind", x.told(p + 1, 0), NO_SUCH);
        }
        for (int p : beyond(0, 5)) {
            is("p " + p, x.told(p, 0), NO_SUCH);
        }
    }

    static void promise12WhatIs0To5() {
        SalvageOfDays x = fresh();
        x.diver(0, 50);
        is("the first", x.told(0, 0), 50);
        is("the last", x.told(0, 5), 5);
        for (int what : beyond(0, 5)) {
            is("what " + what, x.told(0, what), NOT_SO);
        }
    }

    static void promise12NoneSuchComesFirst() {
        is("ahead of what", fresh().told(0, 6), NO_SUCH);
        is("ahead of what", fresh().told(-1, -1), NO_SUCH);
    }

    static void promise12CanBringUpNone() {
        SalvageOfDays x = fresh();
        x.diver(0, 0);
        is("with no breath", x.told(0, 4), 1);
        x.cask(0, 3, 1);
        is("with no breath", x.told(0, 4), 0);
        x.put(0, 99);
        allTo(x, 1);
        is("none left in the wreck", x.told(0, 4), 0);
        allTo(x, 2);
        is("all opened", x.told(0, 4), 0);
    }

    static void promise12CanBringUpAll() {
        SalvageOfDays x = fresh();
        x.diver(0, 66);
        is("bits 0 to 11", x.told(0, 4), 4095);
        x.put(0, 65);
        is("all but the last", x.told(0, 4), 2047);
    }

    static void promise12HowMuchOneBreathes() {
        int[] withMore0 = {5, 10, 5, 10, 5, 0};
        int[] withMore9 = {5, 10, 5, 10, 14, 0};
        for (int kind = 0; kind < 6; kind++) {
            SalvageOfDays x = fresh();
            x.diver(10 * kind, 0);
            x.diver(10 * kind + 9, 99);
            is("kind " + kind + ", more 0", x.told(0, 5), withMore0[kind]);
            is("kind " + kind + ", more 9, not held", x.told(1, 5), withMore9[kind]);
        }
    }

    static void promise12BroughtIsCountedOn() {
        SalvageOfDays x = Due.under(ALL_STAYS);
        x.diver(0, 0);
        for (int i = 1; i <= 30; i++) {
            x.dive(0, 0);
            x.cask(0, 3, 0);
            is("brought", x.told(0, 1), i);
        }
    }

    // ---- 13, dives

    static void promise13OfOneThatIsThere() {
        SalvageOfDays x = fresh();
        is("no diver yet", x.dives(0, 0, 0), NO_SUCH);
        x.diver(0, 7);
        is("the first", x.dives(0, 0, 0), 7);
        for (int p : beyond(0, 0)) {
            is("p " + p, x.dives(p, 0, 0), NO_SUCH);
        }
    }

    static void promise13CasksAre0To11() {
        SalvageOfDays x = fresh();
        x.diver(0, 99);
        is("the first", x.dives(0, 0, 1), 0);
        is("the last", x.dives(0, 11, 1), 66);
        for (int k : beyond(0, 11)) {
            is("cask " + k, x.dives(0, k, 0), NO_SUCH);
        }
    }

    static void promise13WhatIs0To2() {
        SalvageOfDays x = fresh();
        x.diver(0, 99);
        is("the last", x.dives(0, 11, 2), 1);
        for (int what : beyond(0, 2)) {
            is("what " + what, x.dives(0, 0, what), NOT_SO);
        }
    }

    static void promise13NoneSuchComesFirst() {
        SalvageOfDays x = fresh();
        is("no diver, ahead of what", x.dives(0, 0, 3), NO_SUCH);
        x.diver(0, 0);
        is("no cask, ahead of what", x.dives(0, 12, 3), NO_SUCH);
        is("no cask, ahead of what", x.dives(0, -1, -1), NO_SUCH);
    }

    static void promise13BeItWhereItMay() {
        SalvageOfDays x = fresh();
        x.diver(0, 40);
        for (int place = 0; place < 3; place++) {
            x.cask(3, 3, place);
            is("reaches, place " + place, x.dives(0, 3, 0), 40);
            is("costs, place " + place, x.dives(0, 3, 1), 18);
        }
    }

    static void promise13Can0IfItIsNotInTheWreck() {
        SalvageOfDays x = fresh();
        x.diver(0, 40);
        is("in the wreck", x.dives(0, 3, 2), 1);
        x.cask(3, 3, 1);
        is("on the quay", x.dives(0, 3, 2), 0);
        x.cask(3, 3, 2);
        is("opened", x.dives(0, 3, 2), 0);
    }

    static void promise13ReachesAsDeepOrDeeper() {
        SalvageOfDays x = Due.under("reaches 50;costs 0;fades 0;");
        x.diver(0, 0);
        int[] deep = {0, 49, 50, 51, 99};
        int[] can = {1, 1, 1, 0, 0};
        for (int i = 0; i < deep.length; i++) {
            x.cask(2, 2, deep[i]);
            is("deep " + deep[i], x.dives(0, 2, 2), can[i]);
        }
    }

    static void promise13ReachesByThatCask() {
        SalvageOfDays x = Due.under("reaches strong;costs 0;fades 0;");
        x.diver(0, 50);
        x.cask(9, 1, 28);
        is("reaches 28", x.dives(0, 9, 0), 28);
        is("27 deep", x.dives(0, 9, 2), 1);
        x.cask(9, 1, 26);
        is("reaches 26", x.dives(0, 9, 2), 0);
        is("the others reach 20", x.told(0, 4), 127);
    }

    static void promise13CostsNoMoreThanBreath() {
        SalvageOfDays x = Due.under("reaches 99;costs 50;fades 0;");
        x.diver(0, 0);
        int[] breath = {0, 49, 50, 51, 99};
        int[] can = {0, 0, 1, 1, 1};
        for (int i = 0; i < breath.length; i++) {
            x.put(0, breath[i]);
            is("breath " + breath[i], x.dives(0, 2, 2), can[i]);
        }
    }

    static void promise13OfNoCostWithNoBreath() {
        SalvageOfDays x = Due.under(ALL_STAYS);
        x.diver(0, 0);
        is("can", x.dives(0, 11, 2), 1);
    }

    /** What one of a kind reaches and costs; the law says so much of both. */
    private static void kind(int kindMore, int said, int reaches, int sort, int hour, int costs) {
        SalvageOfDays x = Due.under("reaches " + said + ";costs " + said + ";fades 0;");
        x.diver(kindMore, 50);
        x.cask(7, 0, sort);
        x.sky(6, hour);
        is("reaches of " + kindMore + " by " + said, x.dives(0, 7, 0), reaches);
        is("costs of " + kindMore + " by " + said + ", sort " + sort + ", hour " + hour,
            x.dives(0, 7, 1), costs);
    }

    static void promise13ADiverByTheTextAlone() {
        kind(9, 0, 0, 0, 0, 0);
        kind(9, 99, 99, 1, 0, 99);
        kind(0, 45, 45, 5, 4, 45);
    }

    static void promise13ABoyReachesHalfCutAndMore() {
        kind(10, 0, 0, 1, 1, 0);
        kind(10, 1, 0, 1, 1, 1);
        kind(10, 2, 1, 1, 1, 2);
        kind(10, 3, 1, 0, 1, 3);
        kind(19, 3, 10, 0, 0, 3);
        kind(19, 99, 58, 0, 4, 99);
    }

    static void promise13AMasterReaches10More() {
        kind(20, 0, 10, 1, 0, 0);
        kind(29, 89, 99, 1, 0, 98);
    }

    static void promise13AMasterIsNotHeldAbove() {
        kind(29, 99, 109, 1, 0, 108);
        kind(29, 90, 100, 5, 0, 99);
        kind(29, 91, 101, 5, 0, 100);
    }

    static void promise13AMasterCostsHalfCutForSort0() {
        kind(29, 0, 10, 0, 0, 0);
        kind(29, 1, 11, 0, 0, 0);
        kind(29, 7, 17, 0, 0, 3);
        kind(29, 99, 109, 0, 0, 49);
    }

    static void promise13AMasterCostsMoreMoreElse() {
        for (int sort = 1; sort < 6; sort++) {
            kind(20, 30, 40, sort, 0, 30);
            kind(29, 30, 40, sort, 0, 39);
        }
    }

    static void promise13AMateReachesMoreMoreThanABoy() {
        kind(30, 99, 49, 0, 1, 99);
        kind(39, 99, 67, 0, 1, 99);
        kind(35, 1, 10, 0, 1, 1);
    }

    static void promise13AMateCosts0IfHourModulo4Is0() {
        for (int hour : new int[] {0, 4, 8, 500, 996}) {
            kind(31, 88, 46, hour % 6, hour, 0);
        }
        for (int hour : new int[] {1, 2, 3, 5, 6, 7, 997, 998, 999}) {
            kind(31, 88, 46, hour % 6, hour, 88);
        }
    }

    static void promise13AWidowReachesMore() {
        kind(40, 99, 0, 1, 0, 99);
        kind(49, 0, 9, 1, 0, 9);
        kind(43, 50, 3, 1, 0, 53);
    }

    static void promise13AWidowCostsAsAMaster() {
        kind(49, 99, 9, 0, 0, 49);
        kind(49, 99, 9, 5, 0, 108);
    }

    static void promise13ADrownedReaches99() {
        kind(50, 0, 99, 0, 0, 0);
        kind(59, 99, 99, 0, 0, 99);
        kind(59, 40, 99, 5, 3, 40);
    }

    static void promise13TheDeepestOfEachKind() {
        int[] reaches = {99, 58, 109, 67, 9, 99};
        for (int kind = 0; kind < 6; kind++) {
            SalvageOfDays x = Due.under("reaches 99;costs 0;fades 0;");
            x.diver(10 * kind + 9, 50);
            x.cask(1, 0, 0);
            int most = Math.min(99, reaches[kind]);
            x.cask(1, 2, most);
            is("kind " + kind + " at " + most, x.dives(0, 1, 2), 1);
            if (most < 99) {
                x.cask(1, 2, most + 1);
                is("kind " + kind + ", one deeper", x.dives(0, 1, 2), 0);
            }
        }
    }

    static void promise13CostsMoreThanAnyBreath() {
        SalvageOfDays x = Due.under("reaches 99;costs 91;fades 0;");
        x.diver(29, 99);
        x.diver(28, 99);
        is("it costs 100", x.dives(0, 1, 2), 0);
        is("it costs 99", x.dives(1, 1, 2), 1);
    }
}
