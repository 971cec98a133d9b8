/**
 * Promises 2 to 43: a call that is refused, and one that just asks, changes nothing that a later
 * call shows. Each is called on an object, and then all is asked of it that can be: it must answer
 * as a twin does that was never called so. What the document excepts (a FAULT empties the tape,
 * DIVERS ahead of a place outside came) stands in EdgesOfTextTest and EdgesOfHostTest.
 */
public final class NothingChangesTest {
    private static final Due DUE = new Due("NothingChangesTest");
    private static final int MIN = Integer.MIN_VALUE, MAX = Integer.MAX_VALUE;
    private static final int BAD = -2, STATE = -3, FULL = -4, NO_SUCH = -5, NO_CASK = -6;
    private static final int NOT_SO = -7, NOTHING = -11, OUTSIDE = -12, UNLIKE = -13;
    private static final long NO = -4611686018427387904L;
    /** Sheets of the rich object: a row of casks, bytes, a missing one, more than any call takes. */
    private static final int ROW = 0, BYTES = 1, MISSING = 2, LONG = 3;
    private static final int READING_LAW = 2;

    private interface Call {
        long on(SalvageOfDays x);
    }

    private interface Setup {
        void on(SalvageOfDays x);
    }

    private static final Setup AS_IT_IS = x -> { };
    private static final Setup SIX_DIVERS = x -> {
        for (int i = 0; i < 6; i++) {
            x.diver(11, 20 + i);
        }
    };
    private static final Setup SIX_TEXTS = x -> {
        x.text();
        for (int i = 0; i < 3; i++) {
            Due.text(x, "reaches 1;costs 2;fades 3;");
        }
        Due.feed(x, "fed");
    };
    private static final Setup FULL_TAPE = x -> {
        for (int i = 0; i < 32; i++) {
            x.feed(5, 'f', 'u', 'l', 'l', ' ');
        }
        x.feed(5, ' ', ' ', ' ', ' ', ' ');
        for (int i = 0; i < 4; i++) {
            x.feed(1, ' ', ' ', ' ', ' ', ' ');
        }
    };
    private static final Setup LAST_HOUR = x -> x.sky(6, 999);

    public static void main(String[] args) {
        refusedByCasksAndTexts();
        refusedByDivers();
        refusedByDives();
        refusedByWhatIsBest();
        refusedByTold();
        refusedByStorms();
        refusedBySheets();
        refusedByTheHost();
        askedOfDivers();
        askedOfTheBay();
        askedOfTold();
        askedOfStorms();
        DUE.end();
    }

    // ---- an object that has something of all, and all that can be asked of it

    private static SalvageOfDays rich() {
        SalvageOfDays x = new SalvageOfDays();
        Due.text(x, "reaches breath+9;costs deep+1;fades 2+(sort=3);");
        Due.text(x, "reaches 99;costs 0;fades 0;");
        x.force(1);
        x.diver(3, 50);
        x.diver(14, 30);
        skyOf(x, 3, 40, 0, 20, 11, 7);
        x.sky(6, 12);
        x.dive(0, 2);
        x.cask(1, 3, 1);
        x.cask(4, 3, 2);
        x.cask(5, 1, 66);
        x.image();
        x.put(0, 44);
        x.sky(2, 9);
        x.cask(7, 3, 1);
        x.force(0);
        Due.sheet(x, ROW, 3, 3, 11, 8);
        x.sheet(BYTES, 0, 3);
        x.cell(BYTES, 1, 1);
        x.sheet(LONG, 2, 21);
        x.cell(LONG, 20, 5);
        Due.feed(x, "reaches 7;co");
        return x;
    }

    private static void skyOf(SalvageOfDays x, int... weather) {
        for (int t = 0; t < weather.length; t++) {
            x.sky(t, weather[t]);
        }
    }

    /** Reading changes the object; it's the last that it is asked. */
    private static String read(SalvageOfDays x) {
        StringBuilder told = new StringBuilder(Due.all(x));
        readSheets(x, told);
        Due.feed(x, "sts 8;fades 9;");
        told.append("text ").append(x.text()).append(' ').append(x.count(4));
        x.force(x.count(4) - 1);
        told.append(' ').append(x.asks(0, 0, 0)).append(' ').append(x.asks(1, 0, 0));
        told.append(" back ").append(x.back()).append(' ').append(Due.all(x));
        return told.toString();
    }

    /** Where nothing fades, the weather that a number is like is the number. */
    private static void readSheets(SalvageOfDays x, StringBuilder told) {
        told.append("missing ").append(x.cell(MISSING, 0, 0)).append(' ');
        x.force(READING_LAW);
        for (int sort = 0; sort < 3; sort++) {
            x.sheet(MISSING, sort, 1);
            for (int s : new int[] {ROW, BYTES, LONG}) {
                int is = x.copy(s, 0, MISSING, 0, 0);
                told.append("sheet ").append(s).append(' ').append(is).append(' ');
                for (int i = 0; is == 0 && x.copy(s, i, MISSING, 0, 1) == 1; i++) {
                    told.append(x.skies(MISSING, 0, 1)).append(' ');
                }
            }
        }
    }

    private static void stays(String name, Setup setup, long due, Call call) {
        SalvageOfDays x = rich();
        SalvageOfDays twin = rich();
        setup.on(x);
        setup.on(twin);
        DUE.is(name, call.on(x), due);
        DUE.isTrue(name + " changes nothing", read(x).equals(read(twin)));
    }

    private static void refused(String name, long due, Call call) {
        stays(name, AS_IT_IS, due, call);
    }

    // ---- refused

    private static void refusedByCasksAndTexts() {
        refused("2 what", BAD, x -> x.count(7));
        refused("3 cask", NO_SUCH, x -> x.cask(12, 1, 5));
        refused("3 cask below", NO_SUCH, x -> x.cask(-1, 1, 5));
        refused("3 what", NOT_SO, x -> x.cask(3, 4, 1));
        refused("3 what below", NOT_SO, x -> x.cask(3, -1, 1));
        refused("3 sort", NOT_SO, x -> x.cask(3, 0, 6));
        refused("3 strong", NOT_SO, x -> x.cask(3, 1, 100));
        refused("3 deep", NOT_SO, x -> x.cask(3, 2, -1));
        refused("3 place", NOT_SO, x -> x.cask(3, 3, 3));
        refused("4 cask", NO_SUCH, x -> x.lies(12, 0));
        refused("4 what", NOT_SO, x -> x.lies(0, 4));
        refused("5 sort", NO_SUCH, x -> x.sky(7, 5));
        refused("5 sort below", NO_SUCH, x -> x.sky(-1, 5));
        refused("5 weather", NOT_SO, x -> x.sky(0, 100));
        refused("5 weather below", NOT_SO, x -> x.sky(5, -1));
        refused("5 hour", NOT_SO, x -> x.sky(6, 1000));
        refused("5 hour below", NOT_SO, x -> x.sky(6, -1));
        refused("6 n", BAD, x -> x.feed(0, 'x', 'x', 'x', 'x', 'x'));
        refused("6 n above", BAD, x -> x.feed(6, 'x', 'x', 'x', 'x', 'x'));
        refused("6 byte", BAD, x -> x.feed(5, 'x', 'x', 'x', 'x', 256));
        refused("6 byte behind n", BAD, x -> x.feed(1, 'x', 'x', 'x', 'x', -1));
        stays("6 full", FULL_TAPE, FULL, x -> x.feed(5, 'x', 'x', 'x', 'x', 'x'));
        stays("7 full", SIX_TEXTS, FULL, SalvageOfDays::text);
        refused("8 text", BAD, x -> x.force(3));
        refused("8 text below", BAD, x -> x.force(-1));
        refused("9 part", -1000, x -> x.asks(3, 0, 0));
        refused("9 diver", -1000, x -> x.asks(0, 2, 0));
        refused("9 cask", -1000, x -> x.asks(1, 0, 12));
        refused("9 sort", -1000, x -> x.asks(2, 0, 6));
    }

    private static void refusedByDivers() {
        refused("10 kindMore", BAD, x -> x.diver(60, 5));
        refused("10 kindMore below", BAD, x -> x.diver(-1, 5));
        refused("10 much", BAD, x -> x.diver(0, 100));
        refused("10 much below", BAD, x -> x.diver(0, -1));
        stays("10 full", SIX_DIVERS, FULL, x -> x.diver(33, 5));
        stays("10 bad and full", SIX_DIVERS, BAD, x -> x.diver(33, 105));
        refused("11 diver", NO_SUCH, x -> x.put(2, 5));
        refused("11 v", NOT_SO, x -> x.put(1, 100));
        refused("11 v below", NOT_SO, x -> x.put(1, -1));
        refused("12 diver", NO_SUCH, x -> x.told(2, 0));
        refused("12 what", NOT_SO, x -> x.told(0, 6));
        refused("13 diver", NO_SUCH, x -> x.dives(2, 0, 0));
        refused("13 cask", NO_SUCH, x -> x.dives(0, 12, 0));
        refused("13 what", NOT_SO, x -> x.dives(0, 0, 3));
    }

    private static void refusedByDives() {
        refused("14 diver", NO_SUCH, x -> x.dive(2, 0));
        refused("14 cask", NO_CASK, x -> x.dive(0, 12));
        refused("14 on the quay", STATE, x -> x.dive(0, 1));
        refused("14 opened", STATE, x -> x.dive(0, 4));
        refused("14 too dear", STATE, x -> x.dive(0, 11));
        refused("15 cask", NO_CASK, x -> x.open(12));
        refused("15 in the wreck", STATE, x -> x.open(0));
        refused("15 opened", STATE, x -> x.open(4));
        stays("16 the last hour", LAST_HOUR, STATE, SalvageOfDays::hour);
        refused("17 what", -1000, x -> x.bay(8));
        refused("18 n", -1000, x -> x.run(41, 0));
        refused("18 what", -1000, x -> x.run(1, 12));
        refused("20 sheet", BAD, x -> x.row(4, 0, 0));
        refused("20 missing", NOTHING, x -> x.row(MISSING, 0, 0));
        refused("20 diver", NO_SUCH, x -> x.row(ROW, 2, 0));
        refused("20 what", NOT_SO, x -> x.row(ROW, 0, 4));
        refused("21 sheet", BAD, x -> x.salvage(-1, 0));
        refused("21 missing", NOTHING, x -> x.salvage(MISSING, 0));
        refused("21 diver", NO_SUCH, x -> x.salvage(ROW, 2));
        stays("21 no cask", x -> x.cell(ROW, 3, 12), BAD, x -> x.salvage(ROW, 0));
        stays("21 above 999", x -> x.sky(6, 996), STATE, x -> x.salvage(ROW, 0));
    }

    private static void refusedByWhatIsBest() {
        refused("22 n", -1000, x -> x.which(41, 0));
        refused("22 what", -1000, x -> x.which(0, 2));
        refused("23 room", BAD, x -> x.cargo(1000, 0));
        refused("23 what", BAD, x -> x.cargo(0, 2));
        refused("24 diver", NO_SUCH, x -> x.last(2, 0, 0));
        refused("24 cask", NO_CASK, x -> x.last(0, 12, 0));
        refused("24 others", NOT_SO, x -> x.last(0, 0, 4));
        refused("25 what", BAD, x -> x.best(2));
        refused("26 sort", NO, x -> x.share(6, 0));
        refused("26 part", NO, x -> x.share(0, 2));
    }

    private static void refusedByTold() {
        refused("27 sheet", BAD, x -> x.judge(4, 0));
        refused("27 missing", NOTHING, x -> x.judge(MISSING, 0));
        refused("27 more than 20", BAD, x -> x.judge(LONG, 0));
        refused("27 sort", NO_SUCH, x -> x.judge(ROW, 6));
        refused("28 more than 20", BAD, x -> x.opened(LONG, 0));
        refused("28 sort", NO_SUCH, x -> x.opened(ROW, -1));
        refused("29 more than 20", BAD, x -> x.skies(LONG, 0, 0));
        refused("29 sort", NO_SUCH, x -> x.skies(ROW, 6, 0));
        refused("29 what", NOT_SO, x -> x.skies(ROW, 0, 2));
        refused("30 more than 20", BAD, x -> x.whose(LONG));
        refused("31 more than 20", BAD, x -> x.laws(LONG, 0));
        refused("31 sort", NO_SUCH, x -> x.laws(ROW, 6));
        refused("32 sheet", BAD, x -> x.film(4, 0, 3));
        refused("32 sort", NO_SUCH, x -> x.film(ROW, 6, 3));
        refused("32 n", NOT_SO, x -> x.film(ROW, 0, 21));
        refused("32 n below", NOT_SO, x -> x.film(LONG, 0, -1));
        refused("32 n of a missing one", NOT_SO, x -> x.film(MISSING, 0, 21));
        refused("33 more than 12", BAD, x -> x.kinds(LONG, 0, 0));
        refused("33 diver", NO_SUCH, x -> x.kinds(BYTES, 2, 0));
        refused("33 of", NOT_SO, x -> x.kinds(BYTES, 0, 2));
        refused("34 more than 12", BAD, x -> x.breaths(LONG, 0, 0));
        refused("34 diver", NO_SUCH, x -> x.breaths(BYTES, 2, 0));
        refused("34 what", NOT_SO, x -> x.breaths(BYTES, 0, 2));
    }

    private static void refusedByStorms() {
        refused("35 seed", -1000, x -> x.drawn(100000, 0));
        refused("35 what", -1000, x -> x.drawn(0, 2));
        refused("36 seed", NO, x -> x.odds(-1, 1, 0, 0));
        refused("36 seeds", NO, x -> x.odds(0, 41, 0, 0));
        refused("36 sort", NO, x -> x.odds(0, 1, 6, 0));
        refused("36 part", NO, x -> x.odds(0, 1, 0, 2));
        SalvageOfDays x = new SalvageOfDays();
        x.sky(1, 9);
        x.diver(0, 7);
        String before = Due.all(x);
        DUE.is("38 there is none", x.back(), STATE);
        DUE.isTrue("38 there is none, nothing changes", Due.all(x).equals(before));
    }

    private static void refusedBySheets() {
        refused("39 sheet", BAD, x -> x.sheet(4, 0, 1));
        refused("39 sort", BAD, x -> x.sheet(ROW, 3, 1));
        refused("39 sort below", BAD, x -> x.sheet(ROW, -2, 1));
        refused("39 n", BAD, x -> x.sheet(ROW, 2, 41));
        refused("39 n of a missing one", BAD, x -> x.sheet(MISSING, 2, 41));
        refused("39 n below", -14, x -> x.sheet(BYTES, 2, -1));
        refused("39 n below of a missing one", -14, x -> x.sheet(MISSING, 0, -1));
        refused("40 sheet", BAD, x -> x.cell(4, 0, 1));
        refused("40 missing", NOTHING, x -> x.cell(MISSING, 0, 1));
        refused("40 place", OUTSIDE, x -> x.cell(ROW, 4, 1));
        refused("40 place below", OUTSIDE, x -> x.cell(BYTES, -1, 1));
    }

    private static void refusedByTheHost() {
        refused("41 sheet", BAD, x -> x.copy(ROW, 0, 4, 0, 1));
        refused("41 missing", NOTHING, x -> x.copy(ROW, 0, MISSING, 0, 1));
        refused("41 sorts", UNLIKE, x -> x.copy(ROW, 0, BYTES, 0, 1));
        refused("41 from outside", OUTSIDE, x -> x.copy(ROW, 3, LONG, 0, 2));
        refused("41 to outside", OUTSIDE, x -> x.copy(ROW, 0, LONG, 18, 4));
        refused("41 to its own outside", OUTSIDE, x -> x.copy(ROW, 2, ROW, 3, 2));
        refused("41 n", OUTSIDE, x -> x.copy(ROW, 2, LONG, 2, -1));
        refused("41 n far off", OUTSIDE, x -> x.copy(LONG, 1, ROW, 1, MAX));
        refused("42 sheet", BAD, x -> x.diversBy(4, 2, 0, 1));
        refused("42 sort", BAD, x -> x.diversBy(ROW, 3, 0, 1));
        refused("42 n", BAD, x -> x.diversBy(ROW, 2, 0, 7));
        refused("42 missing", NOTHING, x -> x.diversBy(MISSING, 2, 0, 1));
        refused("42 another sort", UNLIKE, x -> x.diversBy(ROW, 1, 0, 1));
        refused("42 outside at once", OUTSIDE, x -> x.diversBy(ROW, 2, 3, 1));
        refused("42 outside below", OUTSIDE, x -> x.diversBy(ROW, 2, MIN, 6));
        stays("42 no room", SIX_DIVERS, 0, x -> x.diversBy(ROW, 2, 0, 2));
        refused("43 kind", BAD, x -> x.taken(0, 7));
        refused("43 place", OUTSIDE, x -> x.taken(18, 0));
        refused("43 diver", NOTHING, x -> x.taken(2, 0));
        refused("43 opened", NOTHING, x -> x.taken(10, 6));
        refused("43 unlike", UNLIKE, x -> x.taken(0, 1));
    }

    // ---- asked

    private static void asked(String name, Call call) {
        SalvageOfDays x = rich();
        SalvageOfDays twin = rich();
        long first = call.on(x);
        DUE.isTrue(name + " isn't refused", first >= -1);
        DUE.is(name + " again", call.on(x), first);
        DUE.isTrue(name + " changes nothing", read(x).equals(read(twin)));
    }

    private static void askedOfDivers() {
        for (int what = 0; what < 7; what++) {
            int of = what;
            asked("2 count", x -> x.count(of));
        }
        for (int what = 0; what < 4; what++) {
            int of = what;
            asked("4 lies", x -> x.lies(5, of));
        }
        for (int part = 0; part < 3; part++) {
            int of = part;
            asked("9 asks", x -> x.asks(of, 1, 3));
            asked("13 dives", x -> x.dives(1, 3, of));
        }
        for (int what = 0; what < 6; what++) {
            int of = what;
            asked("12 told", x -> x.told(1, of));
        }
        for (int i = 0; i < 12; i += 6) {
            int at = i;
            asked("43 taken", x -> x.taken(at, at));
        }
    }

    private static void askedOfTheBay() {
        for (int what = 0; what < 7; what++) {
            int of = what;
            asked("17 bay", x -> x.bay(of));
            asked("18 run", x -> x.run(3, of));
        }
        asked("18 run of a diver", x -> x.run(40, 11));
        asked("19 stills", SalvageOfDays::stills);
        for (int what = 0; what < 4; what++) {
            int of = what;
            asked("20 row", x -> x.row(ROW, 0, of));
        }
        for (int what = 0; what < 2; what++) {
            int of = what;
            asked("22 which", x -> x.which(1, of));
            asked("23 cargo", x -> x.cargo(99, of));
            asked("25 best", x -> x.best(of));
            asked("26 share", x -> x.share(1, of));
        }
        for (int others = 0; others < 4; others++) {
            int many = others;
            asked("24 last", x -> x.last(0, 3, many));
        }
    }

    private static void askedOfTold() {
        asked("27 judge", x -> x.judge(ROW, 1));
        asked("28 opened", x -> x.opened(BYTES, 1));
        asked("30 whose", x -> x.whose(BYTES));
        asked("31 laws", x -> x.laws(BYTES, 0));
        for (int what = 0; what < 2; what++) {
            int of = what;
            asked("29 skies", x -> x.skies(BYTES, 1, of));
            asked("33 kinds", x -> x.kinds(BYTES, 0, of));
            asked("34 breaths", x -> x.breaths(BYTES, 0, of));
        }
    }

    private static void askedOfStorms() {
        asked("35 drawn", x -> x.drawn(99999, 0));
        for (int part = 0; part < 2; part++) {
            int of = part;
            asked("36 odds", x -> x.odds(99999, 40, 2, of));
        }
        for (int n = 0; n < 3; n++) {
            int from = n;
            asked("42 none of them", x -> x.diversBy(ROW, 2, from, 0));
        }
        asked("41 none of them", x -> x.copy(ROW, 4, LONG, 21, 0));
    }
}
