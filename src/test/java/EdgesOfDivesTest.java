/** Edges of promises 14 to 21: dives, opening, hours, rows of dives. */
public final class EdgesOfDivesTest extends Edges {
    public static void main(String[] args) {
        run(EdgesOfDivesTest.class, 14, 21);
    }

    // ---- 14, dive

    static void promise14NoDiverComesFirst() {
        SalvageOfDays x = fresh();
        is("no diver yet", x.dive(0, 0), NO_SUCH);
        is("ahead of the cask", x.dive(0, 12), NO_SUCH);
        x.diver(0, 50);
        for (int p : beyond(0, 0)) {
            is("p " + p, x.dive(p, 0), NO_SUCH);
            is("p " + p + ", ahead of the cask", x.dive(p, -1), NO_SUCH);
        }
    }

    static void promise14NoSuchCaskComesAheadOfState() {
        SalvageOfDays x = fresh();
        x.diver(0, 99);
        for (int k : beyond(0, 11)) {
            is("cask " + k, x.dive(0, k), NO_CASK);
        }
        is("the first", x.dive(0, 0), 99);
        is("the last", x.dive(0, 11), 33);
    }

    static void promise14StateIfOneCant() {
        SalvageOfDays x = Due.under("reaches 10;costs 20;fades 0;");
        x.diver(0, 20);
        x.cask(1, 3, 1);
        x.cask(2, 3, 2);
        x.cask(3, 2, 11);
        is("on the quay", x.dive(0, 1), STATE);
        is("opened", x.dive(0, 2), STATE);
        is("too deep", x.dive(0, 3), STATE);
        x.put(0, 19);
        is("too dear", x.dive(0, 0), STATE);
        is("breath stays", x.told(0, 0), 19);
        is("brought stays", x.told(0, 1), 0);
        is("in the wreck", x.count(1), 10);
    }

    static void promise14BreathToTheLast() {
        SalvageOfDays x = Due.under("reaches 10;costs 20;fades 0;");
        x.diver(0, 20);
        x.cask(3, 2, 10);
        is("just as deep, just as dear", x.dive(0, 3), 0);
        is("breath", x.told(0, 0), 0);
        is("brought", x.told(0, 1), 1);
        is("on the quay", x.lies(3, 3), 1);
    }

    static void promise14OfNoCost() {
        SalvageOfDays x = Due.under(ALL_STAYS);
        x.diver(0, 0);
        for (int k = 0; k < 12; k++) {
            is("breath", x.dive(0, k), 0);
            is("brought", x.told(0, 1), k + 1);
        }
        is("none left in the wreck", x.count(1), 0);
        is("again", x.dive(0, 0), STATE);
    }

    static void promise14WhatItCostsAsOfItsKind() {
        SalvageOfDays x = Due.under("reaches 99;costs 31;fades 0;");
        int[] kinds = {7, 17, 27, 37, 49, 57};
        int[] left = {68, 68, 84, 99, 84, 68};
        for (int p = 0; p < 6; p++) {
            x.diver(kinds[p], 99);
            x.cask(p, 0, 0);
            x.cask(p, 2, 0);
            is("kind " + p, x.dive(p, p), left[p]);
        }
    }

    static void promise14WhatItCostsAsItIsAhead() {
        SalvageOfDays x = Due.under("reaches 99;costs breath;fades 0;");
        x.diver(0, 63);
        is("all of it", x.dive(0, 0), 0);
        SalvageOfDays y = Due.under("reaches 99;costs breath<50;fades 0;");
        y.diver(0, 50);
        is("none of 50", y.dive(0, 0), 50);
        y.put(0, 49);
        is("one of 49", y.dive(0, 1), 48);
    }

    static void promise14NothingElseChanges() {
        SalvageOfDays x = fresh();
        x.diver(0, 50);
        x.diver(0, 40);
        x.sky(2, 30);
        x.sky(6, 9);
        x.dive(0, 2);
        is("another one's breath", x.told(1, 0), 40);
        is("another one's brought", x.told(1, 1), 0);
        is("weather", x.bay(2), 30);
        is("hour", x.count(3), 9);
        is("on the quay", x.count(2), 1);
    }

    // ---- 15, open

    static void promise15CasksAre0To11() {
        SalvageOfDays x = fresh();
        toQuay(x, 0, 11);
        for (int k : beyond(0, 11)) {
            is("cask " + k, x.open(k), NO_CASK);
        }
        is("the first", x.open(0), 20);
        is("the last", x.open(11), 20);
    }

    static void promise15StateIfItIsNotOnTheQuay() {
        SalvageOfDays x = fresh();
        is("in the wreck", x.open(4), STATE);
        x.cask(4, 3, 2);
        is("opened", x.open(4), STATE);
        is("no weather", x.bay(4), 0);
        is("it stays", x.lies(4, 3), 2);
        x.cask(4, 3, 1);
        is("on the quay", x.open(4), 20);
        is("just once", x.open(4), STATE);
        is("just once", x.bay(4), 20);
    }

    static void promise15WeatherIs99AtMost() {
        int[] was = {0, 78, 79, 80, 99};
        int[] then = {20, 98, 99, 99, 99};
        for (int i = 0; i < was.length; i++) {
            SalvageOfDays x = fresh();
            toQuay(x, 3);
            x.sky(3, was[i]);
            is("20 and " + was[i], x.open(3), then[i]);
            is("weather", x.bay(3), then[i]);
        }
    }

    static void promise15TheLeastAndTheMostStrong() {
        SalvageOfDays x = fresh();
        toQuay(x, 1, 2, 8);
        x.cask(1, 1, 0);
        x.cask(2, 1, 99);
        x.cask(8, 1, 99);
        is("not strong at all", x.open(1), 0);
        is("opened all the same", x.lies(1, 3), 2);
        is("as strong as can be", x.open(2), 99);
        is("and one more", x.open(8), 99);
    }

    static void promise15OfItsSortAlone() {
        for (int t = 0; t < 6; t++) {
            SalvageOfDays x = fresh();
            x.cask(0, 0, t);
            toQuay(x, 0);
            is("weather then", x.open(0), 20);
            for (int u = 0; u < 6; u++) {
                is("weather of " + u, x.bay(u), u == t ? 20 : 0);
            }
        }
    }

    // ---- 16, hour

    static void promise16TheLastHourIs999() {
        SalvageOfDays x = fresh();
        x.diver(0, 10);
        x.sky(1, 50);
        x.sky(6, 998);
        is("from 998", x.hour(), 1);
        is("to 999", x.count(3), 999);
        is("no further", x.hour(), STATE);
        is("hour stays", x.count(3), 999);
        is("weather stays", x.bay(1), 47);
        is("breath stays", x.told(0, 0), 15);
    }

    static void promise16TheFirstHour() {
        SalvageOfDays x = fresh();
        is("no weather", x.hour(), NONE);
        is("hour", x.count(3), 1);
    }

    static void promise16WeatherIs0AtLeast() {
        SalvageOfDays x = fresh();
        skyOf(x, 0, 1, 2, 3, 4, 99);
        is("main then", x.hour(), 5);
        int[] then = {0, 0, 0, 0, 1, 96};
        for (int t = 0; t < 6; t++) {
            is("weather of " + t, x.bay(t), then[t]);
        }
    }

    static void promise16AllFadesByTheMost() {
        SalvageOfDays x = Due.under("reaches 0;costs 0;fades 9999;");
        skyOf(x, 99, 99, 99, 99, 99, 99);
        is("main then", x.hour(), NONE);
        is("weather", x.bay(0), 0);
    }

    static void promise16NothingFadesBelow0() {
        SalvageOfDays x = Due.under("reaches 0;costs 0;fades -5;");
        skyOf(x, 0, 50, 99);
        is("main then", x.hour(), 2);
        is("weather", x.bay(0), 0);
        is("weather", x.bay(1), 50);
        is("weather", x.bay(2), 99);
    }

    static void promise16MainIsTheFirstOfLikeOnesThen() {
        SalvageOfDays x = Due.under("reaches 0;costs 0;fades (sort=2)*3;");
        skyOf(x, 0, 0, 43, 0, 40, 40);
        is("of like ones the first", x.hour(), 2);
        is("then it is less", x.hour(), 4);
    }

    static void promise16BreathIs99AtMost() {
        int[] kinds = {0, 10, 20, 30, 49, 50};
        int[] breathes = {5, 10, 5, 10, 14, 0};
        for (int kind = 0; kind < 6; kind++) {
            for (int much = 80; much <= 99; much++) {
                SalvageOfDays x = fresh();
                x.diver(kinds[kind], much);
                x.hour();
                int due = Math.min(99, much + breathes[kind]);
                is("kind " + kind + " from " + much, x.told(0, 0), due);
            }
        }
    }

    static void promise16EachOfSixBreathes() {
        SalvageOfDays x = fresh();
        for (int p = 0; p < 6; p++) {
            x.diver(0, p);
        }
        x.hour();
        for (int p = 0; p < 6; p++) {
            is("breath of " + p, x.told(p, 0), 5 + p);
            is("brought of " + p, x.told(p, 1), 0);
        }
    }

    static void promise16FadesByTheHourThatPasses() {
        SalvageOfDays x = Due.under("reaches 0;costs 0;fades hour;");
        x.sky(0, 50);
        x.hour();
        is("by hour 0", x.bay(0), 50);
        x.hour();
        is("by hour 1", x.bay(0), 49);
        x.hour();
        is("by hour 2", x.bay(0), 47);
    }

    static void promise16FadesByWeatherAsItIsThen() {
        SalvageOfDays x = Due.under("reaches 0;costs 0;fades strong-strong*(strong<50);");
        skyOf(x, 50, 49);
        x.hour();
        is("50 fades by 50", x.bay(0), 0);
        is("49 fades by 0", x.bay(1), 49);
    }

    // ---- 17, bay

    static void promise17WhatIs0To7() {
        SalvageOfDays x = fresh();
        x.diver(0, 5);
        skyOf(x, 1, 2, 3, 4, 5, 6);
        for (int what = 0; what < 6; what++) {
            is("sort " + what, x.bay(what), what + 1);
        }
        is("main", x.bay(6), 5);
        is("fair", x.bay(7), 1 + 4 - 3 - 12);
        for (int what : beyond(0, 7)) {
            is("what " + what, x.bay(what), UNKNOWN);
        }
        is("no diver's breath", x.bay(10), UNKNOWN);
    }

    static void promise17MainOfAnEmptySky() {
        SalvageOfDays x = fresh();
        is("none", x.bay(6), NONE);
        x.sky(5, 1);
        is("the least there is", x.bay(6), 5);
        x.sky(5, 0);
        is("none again", x.bay(6), NONE);
    }

    static void promise17MainOfLikeOnesIsTheFirst() {
        SalvageOfDays x = fresh();
        for (int t = 5; t >= 0; t--) {
            x.sky(t, 99);
            is("main", x.bay(6), t);
        }
        x.sky(0, 98);
        is("main", x.bay(6), 1);
    }

    static void promise17FairAtItsLeastAndMost() {
        SalvageOfDays x = fresh();
        skyOf(x, 99, 99, 0, 99, 99, 0);
        is("the most", x.bay(7), 198);
        skyOf(x, 0, 99, 99, 0, 99, 99);
        is("the least", x.bay(7), -297);
    }

    static void promise17FairSortBySort() {
        int[] ten = {10, 0, -10, 10, 0, -20};
        for (int t = 0; t < 6; t++) {
            SalvageOfDays x = fresh();
            x.sky(t, 10);
            is("by sort " + t, x.bay(7), ten[t]);
        }
    }

    // ---- 18, run

    static void promise18NIs0To40() {
        SalvageOfDays x = Due.under("reaches 0;costs 0;fades 1;");
        x.sky(3, 50);
        is("none", x.run(0, 3), 50);
        is("one", x.run(1, 3), 49);
        is("the most", x.run(40, 3), 10);
        for (int n : beyond(0, 40)) {
            is("n " + n, x.run(n, 3), UNKNOWN);
        }
    }

    static void promise18WhatIs0To7Or10To15() {
        SalvageOfDays x = fresh();
        for (int p = 0; p < 6; p++) {
            x.diver(0, p);
        }
        skyOf(x, 40, 41, 42, 43, 44, 45);
        for (int t = 0; t < 6; t++) {
            is("weather of " + t, x.run(2, t), 34 + t);
        }
        is("main", x.run(2, 6), 5);
        is("fair", x.run(2, 7), 34 + 37 - 36 - 78);
        for (int p = 0; p < 6; p++) {
            is("breath of " + p, x.run(2, 10 + p), 10 + p);
        }
        for (int what : new int[] {MIN, -1, 8, 9, 16, MAX, MIN + 10, MIN + 9}) {
            is("what " + what, x.run(2, what), UNKNOWN);
        }
    }

    static void promise18BreathAsOfEachKind() {
        int[] breathes = {5, 10, 5, 10, 14, 0};
        SalvageOfDays x = fresh();
        SalvageOfDays y = fresh();
        for (int p = 0; p < 6; p++) {
            x.diver(10 * p + 9, 20);
            y.diver(10 * (5 - p) + 9, 20);
        }
        for (int p = 0; p < 6; p++) {
            is("of kind " + p, x.run(2, 10 + p), 20 + 2 * breathes[p]);
            is("of kind " + (5 - p), y.run(2, 10 + p), 20 + 2 * breathes[5 - p]);
        }
        SalvageOfDays z = fresh();
        for (int i = 0; i < 6; i++) {
            z.diver(49, 20);
        }
        is("the last widow", z.run(1, 15), 34);
    }

    static void promise18BreathOfOneThatIsThere() {
        SalvageOfDays x = fresh();
        is("no diver yet", x.run(0, 10), UNKNOWN);
        x.diver(0, 7);
        is("the first", x.run(0, 10), 7);
        is("one behind", x.run(0, 11), UNKNOWN);
    }

    static void promise18InThoughtTheHourPasses999() {
        SalvageOfDays x = Due.under(BY_LATE_HOURS);
        x.sky(1, 99);
        x.sky(6, 999);
        is("behind 1", x.run(1, 1), 98);
        is("behind 2", x.run(2, 1), 96);
        is("behind 13", x.run(13, 1), 99 - 91);
        is("behind 14", x.run(14, 1), 0);
        is("the hour stays", x.count(3), 999);
        is("weather stays", x.bay(1), 99);
    }

    static void promise18MainMayBeNoneThen() {
        SalvageOfDays x = fresh();
        x.sky(4, 6);
        is("behind 1", x.run(1, 6), 4);
        is("behind 2", x.run(2, 6), NONE);
        is("now", x.bay(6), 4);
    }

    static void promise18BreathIs99AtMost() {
        SalvageOfDays x = fresh();
        x.diver(0, 89);
        is("behind 2", x.run(2, 10), 99);
        is("behind 3", x.run(3, 10), 99);
        is("behind 1", x.run(1, 10), 94);
        is("now", x.told(0, 0), 89);
    }

    // ---- 19, stills

    static void promise19NoneNowIs0() {
        is("none", fresh().stills(), 0);
        SalvageOfDays x = fresh();
        x.sky(6, 999);
        is("none at the last hour", x.stills(), 0);
    }

    static void promise19UpTo60Hours() {
        SalvageOfDays x = Due.under("reaches 0;costs 0;fades 1;");
        for (int much : new int[] {1, 2, 59, 60}) {
            x.sky(4, much);
            is("behind " + much, x.stills(), much);
        }
        x.sky(4, 61);
        is("not by then", x.stills(), NONE);
        x.sky(4, 99);
        is("not by then", x.stills(), NONE);
    }

    static void promise19NeverIfNothingFades() {
        SalvageOfDays x = Due.under(ALL_STAYS);
        x.sky(4, 1);
        is("never", x.stills(), NONE);
    }

    static void promise19OfAnySort() {
        for (int t = 0; t < 6; t++) {
            SalvageOfDays x = fresh();
            x.sky(t, 30);
            x.sky(5 - t, 4);
            is("the last of sort " + t, x.stills(), 10);
        }
    }

    static void promise19InThoughtTheHourPasses999() {
        SalvageOfDays x = Due.under(BY_LATE_HOURS);
        x.sky(1, 4);
        x.sky(6, 999);
        is("1 and 2 and 3", x.stills(), 3);
        is("the hour stays", x.count(3), 999);
    }

    // ---- 20, row

    static void promise20RefusalsInTheirOrder() {
        SalvageOfDays x = fresh();
        zeros(x, 1, 1);
        x.cell(1, 0, 12);
        zeros(x, 2, 1);
        for (int s : beyond(0, 3)) {
            is("no such sheet first", x.row(s, -1, -1), BAD);
        }
        is("a missing one next", x.row(0, -1, -1), NOTHING);
        is("no cask next", x.row(1, -1, -1), BAD);
        is("no diver next", x.row(2, 0, -1), NO_SUCH);
        x.diver(0, 50);
        is("what at last", x.row(2, 0, -1), NOT_SO);
        is("no cask ahead of no what", x.row(1, 0, 4), BAD);
        is("what", x.row(2, 0, 4), NOT_SO);
        is("none of these", x.row(2, 0, 3), 0);
    }

    static void promise20OfOneThatIsThere() {
        SalvageOfDays x = fresh();
        zeros(x, 0, 0);
        is("no diver yet", x.row(0, 0, 1), NO_SUCH);
        x.diver(0, 50);
        for (int p : beyond(0, 0)) {
            is("p " + p, x.row(0, p, 1), NO_SUCH);
        }
    }

    static void promise20WhatIs0To3() {
        SalvageOfDays x = fresh();
        x.diver(0, 50);
        Due.sheet(x, 0, 1, 1);
        int[] due = {2, 1, 49, 1};
        for (int what = 0; what < 4; what++) {
            is("what " + what, x.row(0, 0, what), due[what]);
        }
        for (int what : beyond(0, 3)) {
            is("what " + what, x.row(0, 0, what), NOT_SO);
        }
    }

    static void promise20SheetsAre0To3() {
        SalvageOfDays x = fresh();
        x.diver(0, 50);
        for (int s = 0; s < 4; s++) {
            Due.sheet(x, s, s);
            is("sheet " + s, x.row(s, 0, 0), 1 << s);
        }
    }

    static void promise20ItTellsWhatIsNoCask() {
        SalvageOfDays x = fresh();
        x.diver(0, 99);
        for (int k : beyond(0, 11)) {
            Due.sheet(x, 0, 1, k, 2);
            is("tells " + k, x.row(0, 0, 1), BAD);
            Due.sheet(x, 0, 1, 2, k);
            is("tells " + k + " at last", x.row(0, 0, 1), BAD);
            Due.sheet(x, 0, k, 1, 2);
            is("tells " + k + " at first", x.row(0, 0, 1), BAD);
        }
        Due.sheet(x, 0, 0, 11);
        is("tells 0 and 11", x.row(0, 0, 1), 2);
    }

    static void promise20ItTellsWhatIsNoCaskFarBehind() {
        SalvageOfDays x = fresh();
        x.diver(0, 99);
        for (int i : new int[] {11, 12, 20, 39}) {
            zeros(x, 0, i + 1);
            x.cell(0, i, 12);
            is("in thought, number " + i, x.row(0, 0, 1), BAD);
            is("truly, number " + i, x.salvage(0, 0), BAD);
        }
        is("none is brought up", x.count(2), 0);
    }

    static void promise20ARowOfNone() {
        SalvageOfDays x = fresh();
        x.diver(0, 50);
        toQuay(x, 5);
        for (int sort = 0; sort < 3; sort++) {
            x.sheet(0, sort, 0);
            is("on the quay", x.row(0, 0, 0), 32);
            is("brings up", x.row(0, 0, 1), 0);
            is("breath", x.row(0, 0, 2), 50);
            is("hours", x.row(0, 0, 3), 0);
        }
    }

    static void promise20ARowOf40() {
        SalvageOfDays x = fresh();
        x.diver(0, 0);
        zeros(x, 0, 40);
        x.cell(0, 39, 1);
        is("brings up the first and the last", x.row(0, 0, 0), 3);
        is("brings up", x.row(0, 0, 1), 2);
        is("hours", x.row(0, 0, 3), 38);
        is("breath", x.row(0, 0, 2), 93);
    }

    static void promise20EachIsTriedOnceAndTheNextOneComes() {
        SalvageOfDays x = Due.under("reaches 99;costs 5;fades 0;");
        x.diver(0, 0);
        Due.sheet(x, 0, 7, 8);
        is("an hour instead of the first", x.row(0, 0, 0), 1 << 8);
        is("hours", x.row(0, 0, 3), 1);
        is("breath", x.row(0, 0, 2), 0);
    }

    static void promise20WhatIsNotInTheWreckTakesAnHour() {
        SalvageOfDays x = fresh();
        x.diver(0, 50);
        x.cask(1, 3, 1);
        x.cask(2, 3, 2);
        Due.sheet(x, 0, 1, 2, 3, 3);
        is("hours", x.row(0, 0, 3), 3);
        is("brings up", x.row(0, 0, 1), 1);
        is("on the quay, but no opened one", x.row(0, 0, 0), 2 + 8);
    }

    static void promise20InThoughtTheHourPasses999() {
        SalvageOfDays x = Due.under("reaches 99;costs hour=1000;fades 0;");
        x.diver(0, 50);
        x.cask(0, 3, 2);
        x.sky(6, 999);
        Due.sheet(x, 0, 0, 1, 0, 2);
        is("hours", x.row(0, 0, 3), 2);
        is("brings up", x.row(0, 0, 1), 2);
        is("by hour 1000 it costs 1", x.row(0, 0, 2), 50 + 5 - 1 + 5);
        is("the hour stays", x.count(3), 999);
    }

    static void promise20ReachesByAnHourAbove999() {
        SalvageOfDays x = Due.under("reaches hour-950;costs 0;fades 0;");
        x.diver(0, 50);
        x.cask(5, 2, 50);
        x.cask(6, 2, 51);
        x.sky(6, 999);
        Due.sheet(x, 0, 5, 5, 6, 6);
        is("49 by hour 999, 50 by 1000, 51 by 1001", x.row(0, 0, 0), 32 + 64);
        is("hours", x.row(0, 0, 3), 2);
    }

    static void promise20AMateGoesByAnHourAbove999() {
        SalvageOfDays x = Due.under("reaches 99;costs 60;fades 0;");
        x.diver(30, 0);
        x.sky(6, 999);
        Due.sheet(x, 0, 1, 1, 2, 1, 3);
        is("for nothing by hour 1000, not by 999 nor 1001", x.row(0, 0, 0), 2 + 4);
        is("hours", x.row(0, 0, 3), 3);
        is("breath", x.row(0, 0, 2), 30);
    }

    static void promise20BroughtAheadIsNotCounted() {
        SalvageOfDays x = fresh();
        x.diver(0, 50);
        x.dive(0, 1);
        Due.sheet(x, 0, 2);
        is("just what the row brings up", x.row(0, 0, 1), 1);
        is("brought stays", x.told(0, 1), 1);
    }

    // ---- 21, salvage

    static void promise21RefusalsInTheirOrder() {
        SalvageOfDays x = fresh();
        x.sky(6, 999);
        zeros(x, 1, 1);
        x.cell(1, 0, -1);
        zeros(x, 2, 1);
        for (int s : beyond(0, 3)) {
            is("no such sheet first", x.salvage(s, -1), BAD);
        }
        is("a missing one next", x.salvage(0, -1), NOTHING);
        is("no cask next", x.salvage(1, -1), BAD);
        is("no diver next", x.salvage(2, 0), NO_SUCH);
        x.diver(0, 50);
        for (int p : beyond(0, 0)) {
            is("no diver, ahead of the hour", x.salvage(2, p), NO_SUCH);
        }
        is("the hour at last", x.salvage(2, 0), STATE);
        is("no cask, ahead of the hour", x.salvage(1, 0), BAD);
    }

    static void promise21HourAndAsManyAreNotAbove999() {
        for (int many : new int[] {1, 2, 20, 40}) {
            SalvageOfDays x = fresh();
            x.diver(0, 50);
            zeros(x, 0, many);
            x.sky(6, 1000 - many);
            is("1000", x.salvage(0, 0), STATE);
            is("hour stays", x.count(3), 1000 - many);
            is("none on the quay", x.count(2), 0);
            x.sky(6, 999 - many);
            is("999", x.salvage(0, 0), 1);
            is("hour", x.count(3), 998);
        }
    }

    static void promise21TheHourIsLookedAtThoughNonePasses() {
        SalvageOfDays x = fresh();
        x.diver(0, 99);
        Due.sheet(x, 0, 0, 1);
        x.sky(6, 998);
        is("by two dives", x.salvage(0, 0), STATE);
        x.sky(6, 997);
        is("by two dives", x.salvage(0, 0), 2);
        is("hour", x.count(3), 997);
    }

    static void promise21ARowOfNone() {
        SalvageOfDays x = fresh();
        x.diver(0, 50);
        zeros(x, 0, 0);
        x.sky(6, 999);
        is("at 999 too", x.salvage(0, 0), 0);
        is("hour", x.count(3), 999);
        is("breath", x.told(0, 0), 50);
    }

    static void promise21TrulyAsTheRowInThought() {
        SalvageOfDays x = fresh();
        x.diver(31, 20);
        x.diver(10, 95);
        x.sky(5, 50);
        x.sky(6, 7);
        Due.sheet(x, 2, 11, 1, 1, 0, 11, 4);
        int quay = x.row(2, 0, 0);
        int brings = x.row(2, 0, 1);
        int breath = x.row(2, 0, 2);
        int hours = x.row(2, 0, 3);
        is("brings up", x.salvage(2, 0), brings);
        is("brought", x.told(0, 1), brings);
        is("breath", x.told(0, 0), breath);
        is("hour", x.count(3), 7 + hours);
        is("weather", x.bay(5), 50 - 3 * hours);
        is("another one's breath", x.told(1, 0), 99);
        for (int k = 0; k < 12; k++) {
            is("place of " + k, x.lies(k, 3), quay >> k & 1);
        }
    }

    static void promise21NoneLeftInTheWreck() {
        SalvageOfDays x = fresh();
        x.diver(0, 50);
        allTo(x, 1);
        Due.sheet(x, 0, 0, 5, 11);
        is("brings up", x.salvage(0, 0), 0);
        is("hours", x.count(3), 3);
        is("breath", x.told(0, 0), 65);
    }
}
