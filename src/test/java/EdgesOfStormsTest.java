/** Edges of promises 35 to 38: storms by lots, images. */
public final class EdgesOfStormsTest extends Edges {
    public static void main(String[] args) {
        run(EdgesOfStormsTest.class, 35, 38);
    }

    // ---- 35, drawn

    static void promise35SeedIs0To99999() {
        SalvageOfDays x = fresh();
        for (int seed : beyond(0, 99999)) {
            is("seed " + seed, x.drawn(seed, 0), UNKNOWN);
            is("seed " + seed, x.drawn(seed, 1), UNKNOWN);
        }
    }

    static void promise35WhatIs0Or1() {
        for (int what : beyond(0, 1)) {
            is("what " + what, fresh().drawn(0, what), UNKNOWN);
        }
    }

    /**
     * Where nothing fades. The lots of seed 0 are 48271, 182605794, 1291394886, 1914720637,
     * 2078669041, 407355683, 1105902161, 854716505, 564586691, 1596680831, 192302371, 1203428207,
     * 1250328747, 1738531149, 1271135913, 1098894339: 24, 23 and 17 of wind, 7 calm, 5 and 11 of
     * storm, 9 and 9 of sun.
     */
    static void promise35TheFirstSeed() {
        SalvageOfDays x = Due.under(ALL_STAYS);
        is("main", x.drawn(0, 0), 1);
        is("fair", x.drawn(0, 1), 7 + 18 - 32);
    }

    /** The lots of seed 99999 bring 24 of wind, 41 of rain, 3 of sun, 3 of haze, 3 of storm. */
    static void promise35TheLastSeed() {
        SalvageOfDays x = Due.under(ALL_STAYS);
        is("main", x.drawn(99999, 0), 2);
        is("fair", x.drawn(99999, 1), 3 - 41 - 6);
    }

    /** By 3 an hour 17 of rain are left, and nothing of sun and of storm. */
    static void promise35HoursPassBehindEachTwoLots() {
        SalvageOfDays x = fresh();
        is("main", x.drawn(99999, 0), 2);
        is("fair", x.drawn(99999, 1), -(29 - 3 * 5 + 4 - 3 + 8 - 3 - 3));
    }

    static void promise35MainIsNoneThen() {
        SalvageOfDays x = Due.under("reaches 0;costs 0;fades 99;");
        x.sky(4, 99);
        is("main", x.drawn(0, 0), NONE);
        is("fair", x.drawn(0, 1), 0);
    }

    static void promise35WeatherIs99AtMost() {
        SalvageOfDays x = Due.under(ALL_STAYS);
        skyOf(x, 95, 0, 0, 85, 0, 0);
        is("calm of 99 and sun of 99, storm of 16", x.drawn(0, 1), 99 + 99 - 32);
        is("calm of like ones the first", x.drawn(0, 0), 0);
    }

    static void promise35FromTheWeatherThatIs() {
        SalvageOfDays x = Due.under(ALL_STAYS);
        x.sky(2, 90);
        is("main", x.drawn(0, 0), 2);
        is("fair", x.drawn(0, 1), 7 + 18 - 90 - 32);
    }

    static void promise35InThoughtTheHourPasses999() {
        SalvageOfDays x = Due.under("reaches 0;costs 0;fades (999<hour)*99;");
        x.sky(0, 99);
        x.sky(6, 991);
        is("999 is the last that fades not", x.drawn(0, 1), 99 - 32 + 18);
        x.sky(6, 992);
        is("999 is the last but one", x.drawn(0, 0), 0);
        is("999 is the last", x.drawn(0, 1), 99 - 32 + 18);
        x.sky(6, 993);
        is("by 1000 all fades", x.drawn(0, 0), NONE);
        x.sky(6, 999);
        is("by 1000 all fades", x.drawn(0, 0), NONE);
        is("the hour stays", x.count(3), 999);
        is("weather stays", x.bay(0), 99);
    }

    static void promise35LikeOnesComeAlike() {
        SalvageOfDays x = fresh();
        for (int seed : new int[] {0, 5, 99999}) {
            int main = x.drawn(seed, 0);
            int fair = x.drawn(seed, 1);
            x.drawn(77, 0);
            is("main again", x.drawn(seed, 0), main);
            is("fair again", x.drawn(seed, 1), fair);
        }
    }

    // ---- 36, odds

    static void promise36SeedIs0To99999() {
        SalvageOfDays x = fresh();
        for (int seed : beyond(0, 99999)) {
            is("seed " + seed, x.odds(seed, 1, 0, 1), NO);
        }
        is("the first", x.odds(0, 1, 0, 1), 1);
        is("the last", x.odds(99999, 1, 0, 1), 1);
    }

    static void promise36SeedsAre1To40() {
        SalvageOfDays x = Due.under("reaches 0;costs 0;fades 99*(sort=0);");
        x.sky(4, 99);
        for (int seeds : beyond(1, 40)) {
            is("seeds " + seeds, x.odds(0, seeds, 0, 0), NO);
        }
        is("one", x.odds(0, 1, 4, 0), 1);
        is("forty, above", x.odds(0, 40, 0, 0), 0);
        is("forty, below", x.odds(0, 40, 0, 1), 1);
    }

    static void promise36SortsAre0To5() {
        for (int t : beyond(0, 5)) {
            is("sort " + t, fresh().odds(0, 1, t, 0), NO);
        }
        SalvageOfDays x = Due.under("reaches 0;costs 0;fades 99;");
        is("none is no sort", x.odds(0, 1, -1, 0), NO);
        is("and no main is none of a sort", x.odds(0, 1, 5, 0), 0);
    }

    static void promise36PartIs0Or1() {
        for (int part : beyond(0, 1)) {
            is("part " + part, fresh().odds(0, 1, 0, part), NO);
        }
    }

    static void promise36OneSeedIsAsDrawn() {
        SalvageOfDays x = fresh();
        for (int seed : new int[] {0, 1, 2, 3, 4, 99999}) {
            for (int t = 0; t < 6; t++) {
                int is = x.drawn(seed, 0) == t ? 1 : 0;
                is("above", x.odds(seed, 1, t, 0), is);
                is("below", x.odds(seed, 1, t, 1), 1);
            }
        }
    }

    static void promise36EachSeed1More() {
        SalvageOfDays x = fresh();
        int[] times = new int[6];
        for (int seed = 40; seed < 52; seed++) {
            int main = x.drawn(seed, 0);
            if (main >= 0) {
                times[main]++;
            }
        }
        for (int t = 0; t < 6; t++) {
            long above = x.odds(40, 12, t, 0);
            long below = x.odds(40, 12, t, 1);
            is("sort " + t, above * 12, times[t] * below);
            is("in lowest terms", 12 % below, 0);
        }
    }

    /** Seed 100000 brings 54 of sun: that's its main where nothing fades; rain is 99999's. */
    static void promise36SeedsMayPass99999() {
        SalvageOfDays x = Due.under(ALL_STAYS);
        is("rain of two, above", x.odds(99999, 2, 2, 0), 1);
        is("rain of two, below", x.odds(99999, 2, 2, 1), 2);
        is("sun of two, above", x.odds(99999, 2, 3, 0), 1);
        is("sun of two, below", x.odds(99999, 2, 3, 1), 2);
        is("of forty it is told too", x.odds(99999, 40, 3, 1) > 0 ? 1 : 0, 1);
    }

    static void promise36NeverAndAlways() {
        SalvageOfDays x = Due.under("reaches 0;costs 0;fades 99-99*(sort=4);");
        x.sky(4, 99);
        is("always, above", x.odds(3, 40, 4, 0), 1);
        is("always, below", x.odds(3, 40, 4, 1), 1);
        is("never, above", x.odds(3, 40, 1, 0), 0);
        is("never, below", x.odds(3, 40, 1, 1), 1);
    }

    static void promise36InThoughtTheHourPasses999() {
        SalvageOfDays x = Due.under("reaches 0;costs 0;fades (999<hour)*99;");
        x.sky(0, 99);
        x.sky(6, 992);
        is("999 is the last", x.odds(0, 1, 0, 0), 1);
        x.sky(6, 993);
        is("by 1000 all fades", x.odds(0, 1, 0, 0), 0);
        x.sky(6, 999);
        is("by 1000 all fades", x.odds(0, 40, 0, 0), 0);
        is("the hour stays", x.count(3), 999);
    }

    // ---- 37, image

    static void promise37HowManyDivers() {
        SalvageOfDays x = fresh();
        is("none yet", x.image(), 0);
        for (int many = 1; many <= 6; many++) {
            x.diver(0, 0);
            is("how many", x.image(), many);
        }
    }

    static void promise37OfANewObject() {
        SalvageOfDays x = fresh();
        x.image();
        String isNew = Due.all(x);
        x.diver(0, 50);
        x.dive(0, 1);
        x.open(1);
        x.hour();
        is("how many", x.back(), 0);
        is("all as new", Due.all(x).equals(isNew) ? 1 : 0, 1);
    }

    static void promise37TheLastOneIsKept() {
        SalvageOfDays x = fresh();
        x.sky(0, 1);
        x.image();
        x.sky(0, 2);
        x.image();
        x.sky(0, 3);
        x.back();
        is("weather", x.bay(0), 2);
    }

    static void promise37NothingElseChanges() {
        SalvageOfDays x = fresh();
        x.diver(44, 50);
        x.dive(0, 0);
        x.sky(3, 9);
        String before = Due.all(x);
        x.image();
        is("all stays", Due.all(x).equals(before) ? 1 : 0, 1);
    }

    // ---- 38, back

    static void promise38StateIfThereIsNone() {
        SalvageOfDays x = fresh();
        x.sky(0, 9);
        is("none", x.back(), STATE);
        is("weather stays", x.bay(0), 9);
        x.image();
        is("one", x.back(), 0);
    }

    static void promise38AnImageStays() {
        SalvageOfDays x = fresh();
        x.sky(0, 9);
        x.image();
        for (int i = 0; i < 3; i++) {
            x.sky(0, 50 + i);
            x.diver(0, 5);
            is("how many", x.back(), 0);
            is("weather", x.bay(0), 9);
        }
    }

    static void promise38WeatherAndHour() {
        SalvageOfDays x = fresh();
        skyOf(x, 1, 2, 3, 4, 5, 99);
        x.sky(6, 999);
        x.image();
        skyOf(x, 0, 0, 0, 0, 0, 0);
        x.sky(6, 0);
        x.back();
        int[] due = {1, 2, 3, 4, 5, 99};
        for (int t = 0; t < 6; t++) {
            is("weather of " + t, x.bay(t), due[t]);
        }
        is("hour", x.count(3), 999);
    }

    static void promise38AllOfTheCasks() {
        SalvageOfDays x = fresh();
        for (int k = 0; k < 12; k++) {
            x.cask(k, 0, (k + 1) % 6);
            x.cask(k, 1, 80 + k);
            x.cask(k, 2, 60 + k);
            x.cask(k, 3, k % 3);
        }
        x.image();
        for (int k = 0; k < 12; k++) {
            x.cask(k, 0, 0);
            x.cask(k, 1, 0);
            x.cask(k, 2, 0);
            x.cask(k, 3, (k + 1) % 3);
        }
        x.back();
        for (int k = 0; k < 12; k++) {
            is("sort of " + k, x.lies(k, 0), (k + 1) % 6);
            is("strong of " + k, x.lies(k, 1), 80 + k);
            is("deep of " + k, x.lies(k, 2), 60 + k);
            is("place of " + k, x.lies(k, 3), k % 3);
        }
    }

    static void promise38BreathAndBroughtOfAll() {
        SalvageOfDays x = Due.under(ALL_STAYS);
        for (int k = 0; k < 12; k++) {
            x.cask(k, 0, 0);
            x.cask(k, 2, 0);
        }
        for (int p = 0; p < 6; p++) {
            x.diver(11 * p, 10 + p);
            x.dive(p, p);
        }
        x.image();
        for (int p = 0; p < 6; p++) {
            x.dive(p, 6 + p);
            x.put(p, 0);
        }
        is("how many", x.back(), 6);
        for (int p = 0; p < 6; p++) {
            is("breath of " + p, x.told(p, 0), 10 + p);
            is("brought of " + p, x.told(p, 1), 1);
            is("kind of " + p, x.told(p, 2), p);
            is("more of " + p, x.told(p, 3), p);
        }
    }

    static void promise38DiversThatCameSinceAreNone() {
        SalvageOfDays x = fresh();
        x.diver(0, 7);
        x.image();
        for (int p = 1; p < 6; p++) {
            x.diver(0, 50);
        }
        is("how many", x.back(), 1);
        is("the first", x.told(0, 0), 7);
        is("the second", x.told(1, 0), NO_SUCH);
        is("the second", x.taken(1, 0), NOTHING);
        is("the second", x.run(0, 11), UNKNOWN);
        is("the second", x.dive(1, 0), NO_SUCH);
        is("there's room again", x.diver(30, 8), 1);
        is("for five", x.diver(0, 8) + x.diver(0, 8) + x.diver(0, 8) + x.diver(0, 8), 2 + 3 + 4 + 5);
        is("not for six", x.diver(0, 8), FULL);
    }

    static void promise38WhoComesThenIsNotAsWhoWasThere() {
        SalvageOfDays x = fresh();
        x.diver(0, 7);
        x.image();
        x.diver(59, 99);
        x.dive(1, 0);
        x.back();
        is("nobody of those can any more", x.best(1), 2);
        x.diver(34, 8);
        int[] due = {8, 0, 3, 4};
        for (int what = 0; what < due.length; what++) {
            is("what " + what, x.told(1, what), due[what]);
        }
    }

    static void promise38ThereIsRoomThoughSixWereInThought() {
        SalvageOfDays x = fresh();
        x.image();
        for (int p = 0; p < 6; p++) {
            x.diver(0, 50);
        }
        is("the last in thought", x.run(1, 15), 55);
        x.back();
        is("a first one", x.diver(0, 50), 0);
    }

    static void promise38TheLaw() {
        SalvageOfDays x = fresh();
        Due.text(x, ALL_STAYS);
        x.force(1);
        x.image();
        x.force(0);
        x.back();
        is("the law", x.count(5), 1);
        is("the law", x.asks(2, 0, 0), 0);
    }

    static void promise38TextsTapeAndSheetsAreNotKept() {
        SalvageOfDays x = fresh();
        Due.sheet(x, 1, 0);
        x.image();
        Due.text(x, ALL_STAYS);
        Due.feed(x, "fed");
        Due.sheet(x, 1, 0, 0, 1);
        x.sheet(2, 0, 4);
        x.back();
        is("texts", x.count(4), 2);
        is("the tape", x.count(6), 3);
        is("a sheet's numbers", x.judge(1, 0), 2);
        is("another sheet", x.judge(2, 0), NONE);
    }
}
