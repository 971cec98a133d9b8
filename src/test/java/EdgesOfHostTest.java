/** Edges of promises 39 to 43: the host. */
public final class EdgesOfHostTest extends Edges {
    public static void main(String[] args) {
        run(EdgesOfHostTest.class, 39, 43);
    }

    /** Whether a SHEET tells just these numbers, 0 .. 99 each, and is of that sort. */
    private static void tells(SalvageOfDays x, int s, int sort, int... numbers) {
        int scratch = s == 3 ? 2 : 3;
        Due.text(x, ALL_STAYS);
        int law = x.force(x.count(4) - 1);
        x.sheet(scratch, sort, 1);
        for (int i = 0; i < numbers.length; i++) {
            is("comes alone", x.copy(s, i, scratch, 0, 1), 1);
            is("number " + i, x.skies(scratch, 0, 1), numbers[i]);
        }
        is("no further one", x.copy(s, numbers.length, scratch, 0, 1), OUTSIDE);
        x.force(law);
    }

    // ---- 39, sheet

    static void promise39SheetsAre0To3() {
        SalvageOfDays x = fresh();
        for (int s : beyond(0, 3)) {
            is("sheet " + s, x.sheet(s, 0, 1), BAD);
            is("sheet " + s + ", missing", x.sheet(s, -1, 1), BAD);
        }
        for (int s = 0; s < 4; s++) {
            is("sheet " + s, x.sheet(s, 0, s), 1);
        }
        for (int s = 0; s < 4; s++) {
            is("its last", s == 0 ? 1 : x.cell(s, s - 1, 0), 1);
            is("behind its last", x.cell(s, s, 0), OUTSIDE);
        }
    }

    static void promise39SortIsMinus1To2() {
        SalvageOfDays x = fresh();
        for (int sort : beyond(-1, 2)) {
            is("sort " + sort, x.sheet(0, sort, 1), BAD);
        }
        is("it stays missing", x.cell(0, 0, 0), NOTHING);
        for (int sort = 0; sort <= 2; sort++) {
            is("sort " + sort, x.sheet(0, sort, 1), 1);
            is("it is there", x.cell(0, 0, 0), 1);
        }
        is("missing", x.sheet(0, -1, 1), 1);
        is("it is missing", x.cell(0, 0, 0), NOTHING);
    }

    static void promise39NIs40AtMost() {
        SalvageOfDays x = fresh();
        for (int sort = 0; sort <= 2; sort++) {
            is("40", x.sheet(0, sort, 40), 1);
            is("the last", x.cell(0, 39, 1), 1);
            is("no further", x.cell(0, 40, 1), OUTSIDE);
            is("41", x.sheet(0, sort, 41), BAD);
            is("the most", x.sheet(0, sort, MAX), BAD);
            is("it stays", x.cell(0, 39, 1), 1);
        }
    }

    static void promise39ARowOfNone() {
        SalvageOfDays x = fresh();
        for (int sort = 0; sort <= 2; sort++) {
            is("none", x.sheet(0, sort, 0), 1);
            is("it is there", x.cell(0, 0, 0), OUTSIDE);
        }
    }

    static void promise39ASizeBelow0() {
        SalvageOfDays x = fresh();
        zeros(x, 0, 1);
        for (int sort = 0; sort <= 2; sort++) {
            is("-1", x.sheet(0, sort, -1), BELOW_ZERO);
            is("the least", x.sheet(0, sort, MIN), BELOW_ZERO);
        }
        is("it stays", x.cell(0, 0, 0), 1);
    }

    static void promise39BadComesAheadOfASizeBelow0() {
        SalvageOfDays x = fresh();
        is("sheet", x.sheet(4, 0, -1), BAD);
        is("sheet", x.sheet(-1, 0, -1), BAD);
        is("sort", x.sheet(0, 3, -1), BAD);
        is("sort", x.sheet(0, -2, -1), BAD);
    }

    static void promise39MissingNDoesNotMatter() {
        for (int n : new int[] {MIN, -1, 0, 1, 40, 41, MAX}) {
            SalvageOfDays x = fresh();
            zeros(x, 0, 1);
            is("n " + n, x.sheet(0, -1, n), 1);
            is("it is missing", x.cell(0, 0, 0), NOTHING);
        }
    }

    static void promise39All0() {
        SalvageOfDays x = fresh();
        for (int sort = 0; sort <= 2; sort++) {
            x.sheet(0, sort, 20);
            for (int i = 0; i < 20; i++) {
                x.cell(0, i, 1);
            }
            x.sheet(0, sort, 20);
            is("all 0", x.judge(0, 0), NONE);
        }
        x.cell(0, 1, 1);
        x.sheet(0, -1, 0);
        x.sheet(0, 2, 2);
        is("all 0 when it was missing", x.judge(0, 0), NONE);
    }

    static void promise39TheNewSortCounts() {
        SalvageOfDays x = fresh();
        x.sheet(0, 2, 2);
        x.sheet(0, 0, 2);
        is("bytes now", x.diversBy(0, 0, 0, 0), 0);
        is("ints no more", x.diversBy(0, 2, 0, 0), UNLIKE);
    }

    static void promise39OtherSheetsStay() {
        SalvageOfDays x = fresh();
        Due.sheet(x, 0, 1, 2, 3);
        x.sheet(1, 2, 3);
        x.sheet(2, -1, 3);
        tells(x, 0, 2, 1, 2, 3);
    }

    // ---- 40, cell

    static void promise40RefusalsInTheirOrder() {
        SalvageOfDays x = fresh();
        for (int s : beyond(0, 3)) {
            is("no such sheet first", x.cell(s, -1, 0), BAD);
        }
        is("a missing one next", x.cell(0, -1, 0), NOTHING);
        x.sheet(0, 2, 0);
        is("a place outside at last", x.cell(0, -1, 0), OUTSIDE);
    }

    static void promise40APlaceOutside() {
        SalvageOfDays x = fresh();
        for (int n : new int[] {0, 1, 3, 40}) {
            x.sheet(0, 2, n);
            for (int i : beyond(0, n - 1)) {
                is("place " + i + " of " + n, x.cell(0, i, 9), OUTSIDE);
            }
            for (int i = 0; i < n; i++) {
                is("place " + i + " of " + n, x.cell(0, i, 9), 1);
            }
        }
    }

    static void promise40RefusedAllStays() {
        SalvageOfDays x = fresh();
        Due.sheet(x, 0, 1, 2, 3);
        x.cell(0, 3, 50);
        x.cell(0, -1, 50);
        tells(x, 0, 2, 1, 2, 3);
    }

    /** What is left of v shows as the weather that it's like; 100 and more like none. */
    private static void kept(int sort, int v, int due) {
        SalvageOfDays x = Due.under(ALL_STAYS);
        x.sheet(0, sort, 1);
        x.cell(0, 0, v);
        is("sort " + sort + " of " + v, x.skies(0, 0, 1), due);
    }

    static void promise40OfBytesTheLowest8Bits() {
        kept(0, 99, 99);
        kept(0, 100, NONE);
        kept(0, 128, NONE);
        kept(0, 255, NONE);
        kept(0, 256, 0);
        kept(0, 257, 1);
        kept(0, 256 + 99, 99);
        kept(0, 65536, 0);
        kept(0, -1, NONE);
        kept(0, -256, 0);
        kept(0, -255, 1);
        kept(0, MIN, 0);
        kept(0, MAX, NONE);
        kept(0, MIN + 7, 7);
    }

    static void promise40OfShortsTheLowest16Bits() {
        kept(1, 99, 99);
        kept(1, 256, NONE);
        kept(1, 257, NONE);
        kept(1, 32768, NONE);
        kept(1, 65535, NONE);
        kept(1, 65536, 0);
        kept(1, 65537, 1);
        kept(1, 65536 + 99, 99);
        kept(1, -1, NONE);
        kept(1, -65536, 0);
        kept(1, -65535, 1);
        kept(1, MIN, 0);
        kept(1, MIN + 7, 7);
    }

    static void promise40OfIntsAll() {
        kept(2, 99, 99);
        kept(2, 256, NONE);
        kept(2, 65536, NONE);
        kept(2, -256, NONE);
        kept(2, -65536, NONE);
        kept(2, MIN, NONE);
        kept(2, MIN + 7, NONE);
        kept(2, MAX, NONE);
    }

    static void promise40JustThatNumber() {
        SalvageOfDays x = fresh();
        Due.sheet(x, 0, 1, 2, 3);
        Due.sheet(x, 1, 1, 2, 3);
        x.cell(0, 1, 77);
        tells(x, 0, 2, 1, 77, 3);
        tells(x, 1, 2, 1, 2, 3);
    }

    // ---- 41, copy

    static void promise41RefusalsInTheirOrder() {
        SalvageOfDays x = fresh();
        x.sheet(1, 2, 3);
        x.sheet(2, 1, 3);
        for (int s : beyond(0, 3)) {
            is("no such sheet first", x.copy(s, -1, 0, -1, -1), BAD);
            is("no such other sheet first", x.copy(0, -1, s, -1, -1), BAD);
        }
        is("a missing one next", x.copy(0, -1, 1, -1, -1), NOTHING);
        is("a missing other one next", x.copy(1, -1, 0, -1, -1), NOTHING);
        is("itself, missing", x.copy(0, -1, 0, -1, -1), NOTHING);
        is("unlike sorts next", x.copy(1, -1, 2, -1, -1), UNLIKE);
        is("unlike sorts next", x.copy(2, -1, 1, -1, -1), UNLIKE);
        is("a place outside at last", x.copy(1, -1, 1, -1, -1), OUTSIDE);
    }

    static void promise41UnlikeSorts() {
        SalvageOfDays x = fresh();
        for (int sort = 0; sort <= 2; sort++) {
            for (int other = 0; other <= 2; other++) {
                x.sheet(0, sort, 1);
                x.sheet(1, other, 1);
                is(sort + " to " + other, x.copy(0, 0, 1, 0, 1), sort == other ? 1 : UNLIKE);
                is("none of them", x.copy(0, 0, 1, 0, 0), sort == other ? 0 : UNLIKE);
            }
        }
    }

    private static SalvageOfDays twoSheets() {
        SalvageOfDays x = fresh();
        Due.sheet(x, 0, 1, 2, 3, 4, 5);
        Due.sheet(x, 1, 11, 12, 13);
        return x;
    }

    static void promise41NBelow0IsOutside() {
        SalvageOfDays x = twoSheets();
        is("-1", x.copy(0, 0, 1, 0, -1), OUTSIDE);
        is("-1 from further on", x.copy(0, 3, 1, 2, -1), OUTSIDE);
        is("the least", x.copy(0, 0, 1, 0, MIN), OUTSIDE);
        is("the least from further on", x.copy(0, 5, 1, 3, MIN), OUTSIDE);
        tells(x, 1, 2, 11, 12, 13);
    }

    static void promise41APlaceToTakeFromOutside() {
        SalvageOfDays x = twoSheets();
        is("below", x.copy(0, -1, 1, 0, 1), OUTSIDE);
        is("just behind", x.copy(0, 5, 1, 0, 1), OUTSIDE);
        is("one of two behind", x.copy(0, 4, 1, 0, 2), OUTSIDE);
        is("the least", x.copy(0, MIN, 1, 0, 1), OUTSIDE);
        is("the most", x.copy(0, MAX, 1, 0, 1), OUTSIDE);
        is("the most, so that the end wraps", x.copy(0, MAX, 1, 0, 3), OUTSIDE);
        tells(x, 1, 2, 11, 12, 13);
    }

    static void promise41APlaceToBringToOutside() {
        SalvageOfDays x = twoSheets();
        is("below", x.copy(0, 0, 1, -1, 1), OUTSIDE);
        is("just behind", x.copy(0, 0, 1, 3, 1), OUTSIDE);
        is("one of two behind", x.copy(0, 0, 1, 2, 2), OUTSIDE);
        is("the least", x.copy(0, 0, 1, MIN, 1), OUTSIDE);
        is("the most", x.copy(0, 0, 1, MAX, 1), OUTSIDE);
        is("the most, so that the end wraps", x.copy(0, 0, 1, MAX, 3), OUTSIDE);
        is("n far too many", x.copy(0, 1, 1, 1, MAX), OUTSIDE);
        tells(x, 1, 2, 11, 12, 13);
    }

    static void promise41None() {
        SalvageOfDays x = twoSheets();
        is("from the first on", x.copy(0, 0, 1, 0, 0), 0);
        is("from behind the last on", x.copy(0, 5, 1, 3, 0), 0);
        is("from further on", x.copy(0, 6, 1, 0, 0), OUTSIDE);
        is("to further on", x.copy(0, 0, 1, 4, 0), OUTSIDE);
        is("from below", x.copy(0, -1, 1, 0, 0), OUTSIDE);
        is("to below", x.copy(0, 0, 1, -1, 0), OUTSIDE);
        tells(x, 1, 2, 11, 12, 13);
    }

    static void promise41AnEmptySheet() {
        SalvageOfDays x = twoSheets();
        x.sheet(2, 2, 0);
        is("none from it", x.copy(2, 0, 0, 2, 0), 0);
        is("none to it", x.copy(0, 2, 2, 0, 0), 0);
        is("one from it", x.copy(2, 0, 0, 0, 1), OUTSIDE);
        is("one to it", x.copy(0, 0, 2, 0, 1), OUTSIDE);
    }

    static void promise41UpToTheEnd() {
        SalvageOfDays x = twoSheets();
        is("the last two", x.copy(0, 3, 1, 1, 2), 2);
        tells(x, 1, 2, 11, 4, 5);
        SalvageOfDays y = twoSheets();
        is("as many as there's room for", y.copy(0, 0, 1, 0, 3), 3);
        tells(y, 1, 2, 1, 2, 3);
    }

    static void promise41AFullSheet() {
        SalvageOfDays x = fresh();
        zeros(x, 0, 40);
        zeros(x, 1, 40);
        x.cell(0, 0, 7);
        x.cell(0, 39, 8);
        is("all", x.copy(0, 0, 1, 0, 40), 40);
        is("one too many", x.copy(0, 0, 1, 0, 41), OUTSIDE);
        x.sheet(2, 2, 2);
        is("the last", x.copy(1, 39, 2, 0, 1), 1);
        is("the first", x.copy(1, 0, 2, 1, 1), 1);
        tells(x, 2, 2, 8, 7);
    }

    static void promise41ItsOwnAsTheyWere() {
        SalvageOfDays x = twoSheets();
        is("upwards", x.copy(0, 0, 0, 1, 4), 4);
        tells(x, 0, 2, 1, 1, 2, 3, 4);
        SalvageOfDays y = twoSheets();
        is("downwards", y.copy(0, 1, 0, 0, 4), 4);
        tells(y, 0, 2, 2, 3, 4, 5, 5);
        SalvageOfDays z = twoSheets();
        is("to their own place", z.copy(0, 0, 0, 0, 5), 5);
        tells(z, 0, 2, 1, 2, 3, 4, 5);
        is("outside of its own", z.copy(0, 0, 0, 1, 5), OUTSIDE);
    }

    static void promise41TheSheetTakenFromStays() {
        SalvageOfDays x = twoSheets();
        x.copy(0, 1, 1, 0, 3);
        tells(x, 0, 2, 1, 2, 3, 4, 5);
    }

    // ---- 42, diversBy

    static void promise42RefusalsInTheirOrder() {
        SalvageOfDays x = fresh();
        x.sheet(1, 1, 0);
        for (int s : beyond(0, 3)) {
            is("no such sheet first", x.diversBy(s, 0, -1, 1), BAD);
        }
        for (int sort : beyond(0, 2)) {
            is("no such sort first", x.diversBy(0, sort, -1, 1), BAD);
        }
        for (int n : beyond(0, 6)) {
            is("n first", x.diversBy(0, 0, -1, n), BAD);
            is("n ahead of another sort", x.diversBy(1, 0, -1, n), BAD);
        }
        is("a missing one next", x.diversBy(0, 0, -1, 1), NOTHING);
        is("another sort next", x.diversBy(1, 0, -1, 1), UNLIKE);
        is("another sort next", x.diversBy(1, 2, -1, 1), UNLIKE);
        is("a place outside at last", x.diversBy(1, 1, -1, 1), OUTSIDE);
    }

    static void promise42NoneAsksNoPlace() {
        SalvageOfDays x = fresh();
        is("of a missing one", x.diversBy(0, 2, 0, 0), NOTHING);
        x.sheet(0, 2, 0);
        is("of another sort", x.diversBy(0, 1, 0, 0), UNLIKE);
        for (int from : new int[] {MIN, -1, 0, 1, 40, MAX}) {
            is("from " + from, x.diversBy(0, 2, from, 0), 0);
        }
    }

    static void promise42OfEachSort() {
        for (int sort = 0; sort <= 2; sort++) {
            SalvageOfDays x = fresh();
            x.sheet(0, sort, 2);
            x.cell(0, 0, 59);
            x.cell(0, 1, 99);
            is("one came", x.diversBy(0, sort, 0, 1), 1);
            is("kind", x.told(0, 2), 5);
            is("more", x.told(0, 3), 9);
            is("breath", x.told(0, 0), 99);
        }
    }

    static void promise42SixOfThem() {
        SalvageOfDays x = fresh();
        Due.sheet(x, 0, 0, 10, 11, 11, 22, 12, 33, 13, 44, 14, 55, 15);
        is("six came", x.diversBy(0, 2, 0, 6), 6);
        for (int p = 0; p < 6; p++) {
            is("kind of " + p, x.told(p, 2), p);
            is("breath of " + p, x.told(p, 0), 10 + p);
        }
    }

    static void promise42FromAPlaceOn() {
        SalvageOfDays x = fresh();
        Due.sheet(x, 0, 77, 21, 31, 41);
        is("from an odd place", x.diversBy(0, 2, 1, 1), 1);
        is("kind", x.told(0, 2), 2);
        is("breath", x.told(0, 0), 31);
        is("the last pair", x.diversBy(0, 2, 2, 1), 1);
        is("kind", x.told(1, 2), 3);
        is("breath", x.told(1, 0), 41);
    }

    static void promise42TheLastPairOfAFullSheet() {
        SalvageOfDays x = fresh();
        zeros(x, 0, 40);
        x.cell(0, 38, 10);
        is("six", x.diversBy(0, 2, 28, 6), 6);
        is("the last one's kind", x.told(5, 2), 1);
        is("from one further on", x.diversBy(0, 2, 29, 6), OUTSIDE);
    }

    static void promise42OneThatIsBadIsLeftOut() {
        int[][] bad = {{-1, 5}, {60, 5}, {MIN, 5}, {MAX, 5}, {0, -1}, {0, 100}, {0, MIN}, {0, MAX}};
        for (int[] pair : bad) {
            SalvageOfDays x = fresh();
            Due.sheet(x, 0, 10, 1, pair[0], pair[1], 20, 2);
            is("two came", x.diversBy(0, 2, 0, 3), 2);
            is("two are there", x.count(0), 2);
            is("the next is looked at", x.told(1, 0), 2);
            is("of one that is bad alone none comes", x.diversBy(0, 2, 2, 1), 0);
        }
    }

    static void promise42WithoutRoomOthersAreLeftOut() {
        SalvageOfDays x = fresh();
        for (int p = 0; p < 4; p++) {
            x.diver(0, 50);
        }
        Due.sheet(x, 0, 1, 1, 2, 2, 3, 3, 4, 4);
        is("two came", x.diversBy(0, 2, 0, 4), 2);
        is("the last that came", x.told(5, 0), 2);
        is("none came", x.diversBy(0, 2, 0, 4), 0);
        is("six are there", x.count(0), 6);
    }

    static void promise42OutsideWhatStoodAheadCame() {
        SalvageOfDays x = fresh();
        Due.sheet(x, 0, 10, 1, 99, 2, 20, 3);
        is("the fourth is outside", x.diversBy(0, 2, 0, 4), OUTSIDE);
        is("two came", x.count(0), 2);
        is("the first", x.told(0, 0), 1);
        is("the third", x.told(1, 0), 3);
    }

    static void promise42APairHalfOutside() {
        SalvageOfDays x = fresh();
        Due.sheet(x, 0, 10, 1, 20);
        is("the second has no breath", x.diversBy(0, 2, 0, 2), OUTSIDE);
        is("the first came", x.count(0), 1);
        is("half a pair alone", x.diversBy(0, 2, 2, 1), OUTSIDE);
        is("half a pair below", x.diversBy(0, 2, -1, 1), OUTSIDE);
        is("none came", x.count(0), 1);
        x.cell(0, 2, 60);
        is("half a pair, of no kind", x.diversBy(0, 2, 2, 1), OUTSIDE);
    }

    static void promise42PlacesFarOff() {
        SalvageOfDays x = fresh();
        Due.sheet(x, 0, 10, 1, 20, 2);
        for (int from : new int[] {MIN, MIN + 1, -2, -1, 3, 4, MAX - 1, MAX}) {
            is("from " + from, x.diversBy(0, 2, from, 6), OUTSIDE);
            is("none came", x.count(0), 0);
        }
    }

    static void promise42OutsideThoughThereIsNoRoom() {
        SalvageOfDays x = fresh();
        for (int p = 0; p < 6; p++) {
            x.diver(0, 50);
        }
        Due.sheet(x, 0, 10, 1);
        is("the second is outside", x.diversBy(0, 2, 0, 2), OUTSIDE);
        is("six are there", x.count(0), 6);
    }

    static void promise42BytesAndShortsAsTheyAreKept() {
        SalvageOfDays x = fresh();
        x.sheet(0, 0, 2);
        x.cell(0, 0, 256 + 12);
        x.cell(0, 1, 512 + 34);
        is("bytes", x.diversBy(0, 0, 0, 1), 1);
        is("more", x.told(0, 3), 2);
        is("breath", x.told(0, 0), 34);
        x.sheet(0, 1, 2);
        x.cell(0, 0, 65536 + 12);
        x.cell(0, 1, 256 + 34);
        is("shorts, too much breath", x.diversBy(0, 1, 0, 1), 0);
        x.cell(0, 1, -65536 + 34);
        is("shorts", x.diversBy(0, 1, 0, 1), 1);
        is("breath", x.told(1, 0), 34);
    }

    // ---- 43, taken

    static void promise43KindIs0To6() {
        SalvageOfDays x = fresh();
        x.diver(0, 0);
        for (int kind : beyond(0, 6)) {
            is("kind " + kind, x.taken(0, kind), BAD);
            is("kind " + kind + ", ahead of i", x.taken(18, kind), BAD);
            is("kind " + kind + ", ahead of nothing there", x.taken(1, kind), BAD);
        }
        is("the first", x.taken(0, 0), 0);
        is("the last", x.taken(6, 6), 20);
    }

    static void promise43PlacesAre0To17() {
        SalvageOfDays x = fresh();
        for (int p = 0; p < 6; p++) {
            x.diver(0, 0);
        }
        for (int i : beyond(0, 17)) {
            for (int kind = 0; kind <= 6; kind++) {
                is("place " + i, x.taken(i, kind), OUTSIDE);
            }
        }
        is("the first", x.taken(0, 0), 0);
        is("the last diver", x.taken(5, 0), 5);
        is("the first cask", x.taken(6, 6), 20);
        x.cask(11, 1, 99);
        is("the last cask", x.taken(17, 6), 99);
    }

    static void promise43NoSuchDiver() {
        SalvageOfDays x = fresh();
        x.diver(0, 0);
        for (int p = 1; p < 6; p++) {
            is("place " + p, x.taken(p, 0), NOTHING);
            is("place " + p + " for a cask", x.taken(p, 6), NOTHING);
        }
    }

    static void promise43AnOpenedCaskIsNotThere() {
        SalvageOfDays x = fresh();
        for (int k = 0; k < 12; k++) {
            is("in the wreck", x.taken(6 + k, 6), 20);
            x.cask(k, 3, 1);
            is("on the quay", x.taken(6 + k, 6), 20);
            x.open(k);
            is("opened", x.taken(6 + k, 6), NOTHING);
            is("opened, for a diver", x.taken(6 + k, 0), NOTHING);
        }
    }

    static void promise43ACaskIsNoDiverAndADiverNoCask() {
        SalvageOfDays x = fresh();
        x.diver(50, 0);
        for (int kind = 0; kind < 6; kind++) {
            is("a cask for kind " + kind, x.taken(6, kind), UNLIKE);
        }
        is("a diver for a cask", x.taken(0, 6), UNLIKE);
    }

    static void promise43AlsoOfOneThatIsOne() {
        int[] kindsOf = {1, 1 + 2, 1 + 4, 1 + 2 + 8, 1 + 4 + 16, 1 + 32};
        for (int own = 0; own < 6; own++) {
            for (int kind = 0; kind < 6; kind++) {
                SalvageOfDays x = fresh();
                x.diver(9, 0);
                x.diver(10 * own, 0);
                int due = (kindsOf[own] >> kind & 1) == 1 ? 1 : UNLIKE;
                is(own + " for " + kind, x.taken(1, kind), due);
            }
        }
    }

    static void promise43HowStrong() {
        SalvageOfDays x = fresh();
        for (int strong : new int[] {0, 1, 99}) {
            x.cask(4, 1, strong);
            is("strong " + strong, x.taken(10, 6), strong);
        }
    }
}
