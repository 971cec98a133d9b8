/** Edges of promises 27 to 34: told hours, told dives. */
public final class EdgesOfToldTest extends Edges {
    public static void main(String[] args) {
        run(EdgesOfToldTest.class, 27, 34);
    }

    /** What a call of told hours answers, by its promise. */
    private static int hours(SalvageOfDays x, int promise, int s, int t) {
        switch (promise) {
            case 27: return x.judge(s, t);
            case 28: return x.opened(s, t);
            case 29: return x.skies(s, t, 0);
            case 30: return x.whose(s);
            default: return x.laws(s, t);
        }
    }

    /** BAD: SHEET; -11; BAD: it tells more than 20; -5: no such SORT. In this order. */
    private static void refusesHours(int promise) {
        SalvageOfDays x = fresh();
        zeros(x, 1, 21);
        zeros(x, 2, 20);
        zeros(x, 3, 40);
        for (int s : beyond(0, 3)) {
            is("no such sheet first", hours(x, promise, s, -1), BAD);
        }
        is("a missing one next", hours(x, promise, 0, -1), NOTHING);
        is("more than 20 next", hours(x, promise, 1, -1), BAD);
        is("40 are more than 20", hours(x, promise, 3, 6), BAD);
        if (promise != 30) {
            for (int t : beyond(0, 5)) {
                is("no sort at last", hours(x, promise, 2, t), NO_SUCH);
            }
        }
    }

    // ---- 27, judge

    static void promise27RefusalsInTheirOrder() {
        refusesHours(27);
    }

    static void promise27TwentyAtMost() {
        SalvageOfDays x = fresh();
        zeros(x, 0, 20);
        is("20", x.judge(0, 0), NONE);
        x.cell(0, 19, 1);
        is("the last of 20", x.judge(0, 0), 19);
        zeros(x, 0, 21);
        is("21", x.judge(0, 0), BAD);
    }

    static void promise27NoneIsTold() {
        SalvageOfDays x = fresh();
        skyOf(x, 9, 9, 9, 9, 9, 9);
        for (int sort = 0; sort < 3; sort++) {
            x.sheet(0, sort, 0);
            for (int t = 0; t < 6; t++) {
                is("sort " + t, x.judge(0, t), NONE);
            }
        }
    }

    static void promise27SortsAre0To5() {
        SalvageOfDays x = fresh();
        skyOf(x, 10, 11, 12, 13, 14, 15);
        for (int t = 0; t < 6; t++) {
            Due.sheet(x, 0, 7 + t, 4 + t);
            for (int u = 0; u < 6; u++) {
                is(t + " told of " + u, x.judge(0, u), t == u ? NONE : 0);
            }
        }
    }

    static void promise27BehindOneHourNotNow() {
        SalvageOfDays x = fresh();
        x.sky(1, 10);
        Due.sheet(x, 0, 10, 7);
        is("as it is now", x.judge(0, 1), 0);
        Due.sheet(x, 0, 7, 4, 1, 0, 0);
        is("behind 1 to 5", x.judge(0, 1), NONE);
    }

    static void promise27TheFirstThatIsOtherwise() {
        for (int i = 0; i < 5; i++) {
            SalvageOfDays x = fresh();
            x.sky(1, 50);
            Due.sheet(x, 0, 47, 44, 41, 38, 35);
            x.cell(0, 4, 99);
            x.cell(0, i, -1);
            is("number " + i, x.judge(0, 1), i);
        }
    }

    static void promise27AJustOneMoreOrLessIsOtherwise() {
        SalvageOfDays x = fresh();
        x.sky(2, 13);
        for (int told = 9; told <= 11; told++) {
            Due.sheet(x, 0, told);
            is("told " + told, x.judge(0, 2), told == 10 ? NONE : 0);
        }
        for (int told : new int[] {MIN, -10, 266, 65546, MAX}) {
            Due.sheet(x, 0, told);
            is("told " + told, x.judge(0, 2), 0);
        }
    }

    static void promise27InThoughtTheHourPasses999() {
        SalvageOfDays x = Due.under(BY_LATE_HOURS);
        x.sky(1, 20);
        x.sky(6, 999);
        Due.sheet(x, 0, 19, 17, 14, 10, 5, 0, 0);
        is("judge", x.judge(0, 1), NONE);
        is("the hour stays", x.count(3), 999);
        is("weather stays", x.bay(1), 20);
    }

    // ---- 28, opened

    static void promise28RefusalsInTheirOrder() {
        refusesHours(28);
    }

    static void promise28NothingOnTheQuay() {
        SalvageOfDays x = fresh();
        zeros(x, 0, 1);
        is("all in the wreck", x.opened(0, 0), 0);
        allTo(x, 2);
        is("all opened", x.opened(0, 0), 0);
    }

    static void promise28NoneIsTold() {
        SalvageOfDays x = fresh();
        zeros(x, 0, 0);
        is("none on the quay", x.opened(0, 0), 0);
        toQuay(x, 0, 5, 11);
        is("all of the quay", x.opened(0, 0), 1 + 32 + 2048);
        allTo(x, 1);
        is("all of the quay", x.opened(0, 3), 4095);
    }

    static void promise28JustThatOne() {
        SalvageOfDays x = fresh();
        toQuay(x, 1, 7);
        Due.sheet(x, 0, 37);
        is("not both", x.opened(0, 1), 0);
        Due.sheet(x, 0, 17);
        is("the one or the other", x.opened(0, 1), 2 + 128);
        x.cask(7, 1, 21);
        is("the one", x.opened(0, 1), 2);
        Due.sheet(x, 0, 18);
        is("the other", x.opened(0, 1), 128);
    }

    static void promise28OnesOfOtherSortsIfItIsSoWithoutThem() {
        SalvageOfDays x = fresh();
        x.sky(1, 10);
        toQuay(x, 1, 2, 3);
        Due.sheet(x, 0, 7);
        is("rain and sun", x.opened(0, 1), 4 + 8);
        Due.sheet(x, 0, 27);
        is("wind", x.opened(0, 1), 2);
    }

    static void promise28WeatherIs99AtMost() {
        SalvageOfDays x = fresh();
        x.sky(4, 80);
        toQuay(x, 4, 10);
        x.cask(4, 1, 19);
        x.cask(10, 1, 99);
        Due.sheet(x, 0, 96);
        is("both come to 99", x.opened(0, 4), 16 + 1024);
    }

    static void promise28OneThatIsNotStrong() {
        SalvageOfDays x = fresh();
        toQuay(x, 0);
        x.cask(0, 1, 0);
        Due.sheet(x, 0, 0);
        is("it changes nothing", x.opened(0, 0), 1);
    }

    static void promise28InThoughtTheHourPasses999() {
        SalvageOfDays x = Due.under(BY_LATE_HOURS);
        x.sky(6, 999);
        toQuay(x, 5);
        Due.sheet(x, 0, 19, 17, 14, 10, 5, 0);
        is("opened", x.opened(0, 5), 32);
        is("on the quay", x.lies(5, 3), 1);
        is("weather stays", x.bay(5), 0);
    }

    // ---- 29, skies

    static void promise29RefusalsInTheirOrder() {
        refusesHours(29);
        SalvageOfDays x = fresh();
        zeros(x, 0, 21);
        zeros(x, 1, 1);
        is("no such sheet ahead of what", x.skies(4, 0, 2), BAD);
        is("a missing one ahead of what", x.skies(2, 0, 2), NOTHING);
        is("more than 20 ahead of what", x.skies(0, 0, 2), BAD);
        is("no sort ahead of what", x.skies(1, 6, 2), NO_SUCH);
        for (int what : beyond(0, 1)) {
            is("what " + what, x.skies(1, 0, what), NOT_SO);
        }
    }

    static void promise29From0To99() {
        SalvageOfDays x = Due.under(ALL_STAYS);
        for (int much : new int[] {0, 1, 50, 98, 99}) {
            Due.sheet(x, 0, much);
            is("how many by " + much, x.skies(0, 2, 0), 1);
            is("the least by " + much, x.skies(0, 2, 1), much);
        }
        for (int none : beyond(0, 99)) {
            Due.sheet(x, 0, none);
            is("how many by " + none, x.skies(0, 2, 0), 0);
            is("none by " + none, x.skies(0, 2, 1), NONE);
        }
    }

    static void promise29NoneIsTold() {
        SalvageOfDays x = fresh();
        zeros(x, 0, 0);
        is("all of them", x.skies(0, 0, 0), 100);
        is("the least", x.skies(0, 0, 1), 0);
    }

    static void promise29AllFade() {
        SalvageOfDays x = Due.under("reaches 0;costs 0;fades 99;");
        zeros(x, 0, 1);
        is("all of them", x.skies(0, 0, 0), 100);
        Due.sheet(x, 0, 1);
        is("none of them", x.skies(0, 0, 0), 0);
    }

    static void promise29SomeComeTo0() {
        SalvageOfDays x = fresh();
        Due.sheet(x, 0, 0);
        is("0 to 3", x.skies(0, 5, 0), 4);
        Due.sheet(x, 0, 1, 0);
        is("4 alone", x.skies(0, 5, 0), 1);
        is("4 alone", x.skies(0, 5, 1), 4);
    }

    static void promise29ByTheWeatherInItsStead() {
        SalvageOfDays x = fresh();
        x.sky(5, 77);
        Due.sheet(x, 0, 9);
        is("not by what is now", x.skies(0, 5, 1), 12);
        is("what is now stays", x.bay(5), 77);
        SalvageOfDays y = Due.under("reaches 0;costs 0;fades strong<50;");
        y.sky(5, 77);
        Due.sheet(y, 0, 12);
        is("by a law that asks it", y.skies(0, 5, 1), 13);
    }

    static void promise29InThoughtTheHourPasses999() {
        SalvageOfDays x = Due.under(BY_LATE_HOURS);
        x.sky(6, 999);
        Due.sheet(x, 0, 49, 47, 44);
        is("the least", x.skies(0, 0, 1), 50);
        is("how many", x.skies(0, 0, 0), 1);
    }

    // ---- 30, whose

    static void promise30RefusalsInTheirOrder() {
        refusesHours(30);
    }

    static void promise30NoneIsTold() {
        SalvageOfDays x = fresh();
        skyOf(x, 1, 2, 3, 4, 5, 6);
        zeros(x, 0, 0);
        is("all six", x.whose(0), 63);
    }

    static void promise30AnEmptySky() {
        SalvageOfDays x = fresh();
        zeros(x, 0, 20);
        is("all six", x.whose(0), 63);
        x.cell(0, 19, 1);
        is("none", x.whose(0), 0);
    }

    static void promise30EachSortByItsBit() {
        SalvageOfDays x = fresh();
        skyOf(x, 10, 20, 30, 40, 50, 60);
        for (int t = 0; t < 6; t++) {
            Due.sheet(x, 0, 7 + 10 * t);
            is("sort " + t, x.whose(0), 1 << t);
        }
        x.sky(5, 10);
        Due.sheet(x, 0, 7);
        is("the first and the last", x.whose(0), 33);
    }

    static void promise30InThoughtTheHourPasses999() {
        SalvageOfDays x = Due.under("reaches 0;costs 0;fades (hour-998)*(sort=2);");
        skyOf(x, 20, 20, 20, 20, 20, 20);
        x.sky(6, 999);
        Due.sheet(x, 0, 19, 17);
        is("rain", x.whose(0), 4);
        Due.sheet(x, 0, 20, 20);
        is("the others", x.whose(0), 63 - 4);
    }

    // ---- 31, laws

    static void promise31RefusalsInTheirOrder() {
        refusesHours(31);
    }

    static void promise31JustText0() {
        SalvageOfDays x = fresh();
        x.sky(0, 10);
        Due.sheet(x, 0, 7);
        is("by it", x.laws(0, 0), 1);
        Due.sheet(x, 0, 8);
        is("not by it", x.laws(0, 0), 0);
    }

    private static SalvageOfDays withSixTexts() {
        SalvageOfDays x = fresh();
        for (int fades : new int[] {4, 5, 6, 7, 8}) {
            Due.text(x, "reaches 0;costs 0;fades " + fades + ";");
        }
        return x;
    }

    static void promise31EachTextByItsBit() {
        SalvageOfDays x = withSixTexts();
        x.sky(0, 50);
        for (int i = 0; i < 6; i++) {
            Due.sheet(x, 0, 47 - i, 44 - 2 * i);
            is("text " + i, x.laws(0, 0), 1 << i);
        }
    }

    static void promise31NoneIsTold() {
        SalvageOfDays x = withSixTexts();
        zeros(x, 0, 0);
        is("all six", x.laws(0, 0), 63);
        SalvageOfDays y = fresh();
        zeros(y, 0, 0);
        is("just text 0", y.laws(0, 0), 1);
    }

    static void promise31BeWhichTheLaw() {
        SalvageOfDays x = withSixTexts();
        x.sky(0, 50);
        x.force(5);
        Due.sheet(x, 0, 47);
        is("by text 0", x.laws(0, 0), 1);
        is("the law stays", x.count(5), 5);
        is("the law stays", x.judge(0, 0), 0);
    }

    static void promise31InThoughtTheHourPasses999() {
        SalvageOfDays x = fresh();
        Due.text(x, BY_LATE_HOURS);
        x.sky(0, 50);
        x.sky(6, 999);
        Due.sheet(x, 0, 49, 47);
        is("by text 1", x.laws(0, 0), 2);
    }

    // ---- 32, film

    static void promise32RefusalsInTheirOrder() {
        SalvageOfDays x = fresh();
        for (int s : beyond(0, 3)) {
            is("no such sheet first", x.film(s, 6, 21), BAD);
        }
        for (int t : beyond(0, 5)) {
            is("no sort next", x.film(0, t, 21), NO_SUCH);
        }
        for (int n : beyond(0, 20)) {
            is("n at last", x.film(0, 0, n), NOT_SO);
        }
        is("refused, it stays missing", x.cell(0, 0, 0), NOTHING);
    }

    static void promise32RefusedTheSheetStays() {
        SalvageOfDays x = fresh();
        Due.sheet(x, 0, 0, 0, 1);
        x.film(0, 6, 2);
        x.film(0, 0, 21);
        is("its numbers", x.judge(0, 0), 2);
        x.sheet(1, 2, 1);
        is("its sort", x.copy(0, 0, 1, 0, 1), 1);
    }

    static void promise32AMissingSheetBecomesOne() {
        SalvageOfDays x = fresh();
        for (int s = 0; s < 4; s++) {
            is("sheet " + s, x.film(s, 0, 1), 1);
            is("is there", x.judge(s, 0), NONE);
        }
    }

    static void promise32NIs0To20() {
        SalvageOfDays x = fresh();
        is("none", x.film(0, 0, 0), 0);
        is("a row of none", x.cell(0, 0, 0), OUTSIDE);
        is("a row of none", x.whose(0), 63);
        is("the most", x.film(0, 0, 20), 20);
        is("the last", x.cell(0, 19, 0), 1);
        is("no further", x.cell(0, 20, 0), OUTSIDE);
    }

    static void promise32OfBytes() {
        SalvageOfDays x = fresh();
        x.sheet(0, 2, 3);
        x.film(0, 0, 3);
        int[] due = {3, UNLIKE, UNLIKE};
        for (int sort = 0; sort < 3; sort++) {
            x.sheet(1, sort, 3);
            is("to sort " + sort, x.copy(0, 0, 1, 0, 3), due[sort]);
        }
    }

    static void promise32TheFirstIsBehindOneHour() {
        SalvageOfDays x = fresh();
        x.sky(2, 10);
        x.film(0, 2, 5);
        Due.sheet(x, 1, 7, 4, 1, 0, 0);
        is("as told", x.judge(1, 2), NONE);
        x.sheet(2, 0, 1);
        int[] due = {10, 7, 4};
        for (int i = 0; i < due.length; i++) {
            x.copy(0, i, 2, 0, 1);
            is("number " + i + " and 3", x.skies(2, 2, 1), due[i]);
        }
    }

    static void promise32TheMostWeather() {
        SalvageOfDays x = Due.under(ALL_STAYS);
        x.sky(2, 99);
        x.film(0, 2, 20);
        is("99 twenty times", x.judge(0, 2), NONE);
        x.sky(2, 98);
        is("not 98", x.judge(0, 2), 0);
    }

    static void promise32InThoughtTheHourPasses999() {
        SalvageOfDays x = Due.under(BY_LATE_HOURS);
        x.sky(4, 20);
        x.sky(6, 999);
        is("n", x.film(0, 4, 6), 6);
        Due.sheet(x, 1, 19, 17, 14, 10, 5, 0);
        for (int i = 0; i < 6; i++) {
            x.cell(1, i, 99);
            x.cell(0, i, 99);
            is("like up to " + i, x.judge(0, 4), 0);
        }
        x.film(0, 4, 6);
        is("like", x.judge(0, 4), NONE);
        is("the hour stays", x.count(3), 999);
        is("weather stays", x.bay(4), 20);
    }

    // ---- 33 and 34, kinds and breaths

    private static int dives(SalvageOfDays x, int promise, int s, int p, int what) {
        return promise == 33 ? x.kinds(s, p, what) : x.breaths(s, p, what);
    }

    /** BAD: SHEET; -11; BAD: it tells more than 12; -5: none such; -7. In this order. */
    private static void refusesDives(int promise) {
        SalvageOfDays x = fresh();
        zeros(x, 1, 13);
        zeros(x, 2, 12);
        zeros(x, 3, 40);
        for (int s : beyond(0, 3)) {
            is("no such sheet first", dives(x, promise, s, 0, 2), BAD);
        }
        is("a missing one next", dives(x, promise, 0, 0, 2), NOTHING);
        is("more than 12 next", dives(x, promise, 1, 0, 2), BAD);
        is("40 are more than 12", dives(x, promise, 3, 0, 2), BAD);
        is("no diver yet next", dives(x, promise, 2, 0, 2), NO_SUCH);
        x.diver(0, 50);
        for (int p : beyond(0, 0)) {
            is("no diver next", dives(x, promise, 2, p, 2), NO_SUCH);
        }
        for (int what : beyond(0, 1)) {
            is("what at last", dives(x, promise, 2, 0, what), NOT_SO);
        }
        is("more than 12 ahead of what", dives(x, promise, 1, 0, 2), BAD);
    }

    static void promise33RefusalsInTheirOrder() {
        refusesDives(33);
    }

    static void promise33NoneIsTold() {
        SalvageOfDays x = fresh();
        x.diver(34, 50);
        zeros(x, 0, 0);
        is("all kinds", x.kinds(0, 0, 0), 63);
        is("all more", x.kinds(0, 0, 1), 1023);
    }

    static void promise33TwelveAtMost() {
        SalvageOfDays x = Due.under(ALL_STAYS);
        x.diver(0, 50);
        x.cask(11, 3, 1);
        Due.sheet(x, 0, 1, 1, 1, 1, 1, 1, 1, 1, 1, 1, 1, 0);
        is("diver and drowned", x.kinds(0, 0, 0) & 33, 33);
        x.cell(0, 11, 1);
        is("the twelfth is otherwise", x.kinds(0, 0, 0), 0);
    }

    static void promise33OtherNumbersThan0And1AreNeverSo() {
        SalvageOfDays x = fresh();
        x.diver(0, 50);
        for (int told : new int[] {MIN, -1, 2, 256, 257, 65537, MAX}) {
            Due.sheet(x, 0, told);
            is("kinds by " + told, x.kinds(0, 0, 0), 0);
            is("more by " + told, x.kinds(0, 0, 1), 0);
            Due.sheet(x, 0, 1, 1, told);
            is("kinds by " + told + " behind", x.kinds(0, 0, 0), 0);
        }
    }

    static void promise33NoneLeftInTheWreck() {
        SalvageOfDays x = fresh();
        x.diver(0, 99);
        allTo(x, 1);
        zeros(x, 0, 12);
        is("all kinds", x.kinds(0, 0, 0), 63);
        is("all more", x.kinds(0, 0, 1), 1023);
        x.cell(0, 0, 1);
        is("no kind", x.kinds(0, 0, 0), 0);
    }

    /** Cask 0 of sort 1 lies so deep; by the law all reach 40, and it costs 40. */
    private static int kindsThatCan(int deep, int breath, int hour) {
        SalvageOfDays x = Due.under("reaches 40;costs 40;fades 0;");
        x.diver(5, breath);
        x.cask(0, 0, 1);
        x.cask(0, 2, deep);
        x.sky(6, hour);
        Due.sheet(x, 0, 1);
        return x.kinds(0, 0, 0);
    }

    static void promise33KindsByBits0To5() {
        is("all can", kindsThatCan(5, 45, 1), 63);
        is("no widow", kindsThatCan(6, 45, 1), 63 - 16);
        is("nor a boy", kindsThatCan(26, 45, 1), 63 - 16 - 2);
        is("nor a mate", kindsThatCan(31, 45, 1), 63 - 16 - 2 - 8);
        is("nor a diver", kindsThatCan(41, 45, 1), 4 + 32);
        is("nor a master", kindsThatCan(51, 45, 1), 32);
        is("for less neither master nor widow", kindsThatCan(0, 44, 1), 63 - 4 - 16);
        is("for nothing a mate by hour 4", kindsThatCan(0, 39, 4), 8);
        is("for nothing a mate by hour 0", kindsThatCan(0, 0, 0), 8);
        is("for nothing none by hour 3", kindsThatCan(0, 0, 3), 0);
    }

    static void promise33MoreByBits0To9() {
        SalvageOfDays x = Due.under("reaches 40;costs 40;fades 0;");
        x.diver(40, 49);
        x.cask(0, 0, 1);
        for (int deep = 0; deep <= 10; deep++) {
            x.cask(0, 2, deep);
            Due.sheet(x, 0, 1);
            is("a widow, deep " + deep, x.kinds(0, 0, 1), 1023 >> deep << deep);
            Due.sheet(x, 0, 0);
            is("a widow can't, deep " + deep, x.kinds(0, 0, 1), 1023 - (1023 >> deep << deep));
        }
        x.cask(0, 2, 0);
        Due.sheet(x, 0, 1);
        x.put(0, 40);
        is("with breath 40", x.kinds(0, 0, 1), 1);
    }

    static void promise33MoreInTheTextToo() {
        SalvageOfDays x = Due.under("reaches 99;costs more*10;fades 0;");
        x.diver(9, 40);
        Due.sheet(x, 0, 1);
        is("up to 4", x.kinds(0, 0, 1), 31);
        is("more stays", x.told(0, 3), 9);
    }

    static void promise34RefusalsInTheirOrder() {
        refusesDives(34);
    }

    static void promise34NoneIsTold() {
        SalvageOfDays x = fresh();
        x.diver(0, 50);
        zeros(x, 0, 0);
        is("all of them", x.breaths(0, 0, 0), 100);
        is("the least", x.breaths(0, 0, 1), 0);
    }

    static void promise34From0To99() {
        SalvageOfDays x = Due.under("reaches 99;costs 99;fades 0;");
        x.diver(0, 50);
        Due.sheet(x, 0, 1);
        is("99 alone", x.breaths(0, 0, 0), 1);
        is("99 alone", x.breaths(0, 0, 1), 99);
        Due.sheet(x, 0, 0);
        is("0 to 98", x.breaths(0, 0, 0), 99);
        is("0 to 98", x.breaths(0, 0, 1), 0);
        SalvageOfDays y = Due.under("reaches 99;costs breath+1;fades 0;");
        y.diver(0, 50);
        Due.sheet(y, 0, 1);
        is("the bound of 99", y.breaths(0, 0, 1), 99);
    }

    static void promise34NoneIsSo() {
        SalvageOfDays x = fresh();
        x.diver(0, 50);
        Due.sheet(x, 0, 0);
        is("cask 0 is always so", x.breaths(0, 0, 0), 0);
        is("the least", x.breaths(0, 0, 1), NONE);
    }

    static void promise34OtherNumbersThan0And1AreNeverSo() {
        SalvageOfDays x = fresh();
        x.diver(0, 50);
        for (int told : new int[] {MIN, -1, 2, MAX}) {
            Due.sheet(x, 0, told);
            is("how many by " + told, x.breaths(0, 0, 0), 0);
            is("the least by " + told, x.breaths(0, 0, 1), NONE);
        }
    }

    static void promise34TwelveAtMost() {
        SalvageOfDays x = fresh();
        x.diver(0, 0);
        Due.sheet(x, 0, 1, 1, 1, 1, 1, 1, 1, 1, 1, 1, 1, 1);
        is("66 to 99", x.breaths(0, 0, 0), 34);
        is("66 to 99", x.breaths(0, 0, 1), 66);
        x.cell(0, 11, 0);
        is("60 to 65", x.breaths(0, 0, 0), 6);
        is("60 to 65", x.breaths(0, 0, 1), 60);
        is("breath stays", x.told(0, 0), 0);
    }

    static void promise34AsOfItsKind() {
        int[] least = {30, 30, 35, 0, 35, 30};
        for (int kind = 0; kind < 6; kind++) {
            SalvageOfDays x = Due.under("reaches 99;costs 30;fades 0;");
            x.diver(10 * kind + 5, 0);
            x.cask(1, 2, 0);
            Due.sheet(x, 0, 1, 1);
            x.cask(0, 0, 1);
            is("kind " + kind, x.breaths(0, 0, 1), least[kind]);
        }
    }
}
