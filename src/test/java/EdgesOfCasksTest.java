/** Edges of promises 1 to 6: a new object, casks, the sky, the tape. */
public final class EdgesOfCasksTest extends Edges {
    private static final int[] MOSTS = {5, 99, 99, 2};

    public static void main(String[] args) {
        run(EdgesOfCasksTest.class, 1, 6);
    }

    // ---- 1, a new object

    static void promise1NoDivers() {
        SalvageOfDays x = fresh();
        is("count(0)", x.count(0), 0);
        for (int p = 0; p < 6; p++) {
            is("told " + p, x.told(p, 0), NO_SUCH);
            is("taken " + p, x.taken(p, 0), NOTHING);
        }
    }

    static void promise1AllCasksInTheWreck() {
        SalvageOfDays x = fresh();
        is("count(1)", x.count(1), 12);
        is("count(2)", x.count(2), 0);
        for (int k = 0; k < 12; k++) {
            is("place of " + k, x.lies(k, 3), 0);
        }
    }

    static void promise1NoWeather() {
        SalvageOfDays x = fresh();
        for (int t = 0; t < 6; t++) {
            is("weather of " + t, x.bay(t), 0);
        }
        is("main", x.bay(6), NONE);
        is("stills", x.stills(), 0);
    }

    static void promise1TheFirstHourIs0() {
        is("count(3)", fresh().count(3), 0);
        is("sky(6, ..)", fresh().sky(6, 5), 0);
    }

    static void promise1SortIsTheCaskModulo6() {
        int[] sorts = {0, 1, 2, 3, 4, 5, 0, 1, 2, 3, 4, 5};
        for (int k = 0; k < 12; k++) {
            is("sort of " + k, fresh().lies(k, 0), sorts[k]);
        }
    }

    static void promise1StrongIs20() {
        for (int k = 0; k < 12; k++) {
            is("strong of " + k, fresh().lies(k, 1), 20);
        }
    }

    static void promise1DeepIs3TimesTheCask() {
        int[] deep = {0, 3, 6, 9, 12, 15, 18, 21, 24, 27, 30, 33};
        for (int k = 0; k < 12; k++) {
            is("deep of " + k, fresh().lies(k, 2), deep[k]);
        }
    }

    static void promise1Text0IsTheLaw() {
        SalvageOfDays x = fresh();
        is("texts", x.count(4), 1);
        is("the law", x.count(5), 0);
        x.diver(0, 77);
        is("reaches breath", x.asks(0, 0, 11), 77);
        is("costs deep * 2", x.asks(1, 0, 11), 66);
        is("fades 3", x.asks(2, 0, 5), 3);
    }

    static void promise1Text0SaysSoOfAll() {
        SalvageOfDays x = fresh();
        x.diver(9, 0);
        for (int v = 0; v <= 99; v++) {
            x.put(0, v);
            x.cask(7, 2, v);
            is("reaches by breath " + v, x.asks(0, 0, 7), v);
            is("costs at " + v, x.asks(1, 0, 7), Math.min(99, 2 * v));
        }
        for (int hour = 0; hour <= 999; hour += 3) {
            SalvageOfDays y = fresh();
            y.sky(6, hour);
            int t = hour / 3 % 6;
            y.sky(t, hour % 100);
            is("fades of " + t + " by hour " + hour, y.asks(2, 0, t), 3);
        }
    }

    static void promise1TheTapeIsEmpty() {
        is("count(6)", fresh().count(6), 0);
        is("text()", fresh().text(), -100);
    }

    static void promise1SheetsAreMissing() {
        for (int s = 0; s < 4; s++) {
            is("sheet " + s, fresh().cell(s, 0, 0), NOTHING);
        }
    }

    static void promise1ThereIsNoImage() {
        is("back()", fresh().back(), STATE);
    }

    static void promise1ObjectsAreApart() {
        SalvageOfDays ahead = fresh();
        SalvageOfDays x = Due.under("reaches 1;costs 2;fades 4;");
        x.diver(55, 9);
        x.sky(2, 8);
        x.sky(6, 7);
        x.cask(4, 0, 0);
        x.cask(4, 3, 1);
        x.image();
        Due.feed(x, "reaches");
        Due.sheet(x, 1, 5, 6);
        String isNew = Due.all(fresh());
        is("one from ahead is as new", isNew.equals(Due.all(ahead)) ? 1 : 0, 1);
        is("one from ahead has no image", ahead.back(), STATE);
        is("one from ahead has no sheet", ahead.cell(1, 0, 0), NOTHING);
        is("one from ahead has no other text", ahead.force(1), BAD);
    }

    // ---- 2, count

    static void promise2WhatIs0To6() {
        for (int what : beyond(0, 6)) {
            is("count(" + what + ")", fresh().count(what), BAD);
        }
        is("count(0)", fresh().count(0), 0);
        is("count(6)", fresh().count(6), 0);
    }

    static void promise2UpTo6Divers() {
        SalvageOfDays x = fresh();
        for (int many = 1; many <= 6; many++) {
            x.diver(0, 0);
            is("count(0)", x.count(0), many);
        }
        x.diver(0, 0);
        is("one without room isn't counted", x.count(0), 6);
    }

    static void promise2NoneLeftInTheWreck() {
        SalvageOfDays x = fresh();
        allTo(x, 1);
        is("in the wreck", x.count(1), 0);
        is("on the quay", x.count(2), 12);
    }

    static void promise2OpenedOnesAreNeither() {
        SalvageOfDays x = fresh();
        allTo(x, 2);
        is("in the wreck", x.count(1), 0);
        is("on the quay", x.count(2), 0);
    }

    static void promise2TheFirstAndTheLastHour() {
        SalvageOfDays x = fresh();
        is("at first", x.count(3), 0);
        x.sky(6, 999);
        is("at last", x.count(3), 999);
    }

    static void promise2UpTo6TextsAndTheLastAsTheLaw() {
        SalvageOfDays x = fresh();
        for (int many = 2; many <= 6; many++) {
            Due.text(x, ALL_STAYS);
            is("texts", x.count(4), many);
            is("the law stays", x.count(5), 0);
        }
        x.force(5);
        is("the law", x.count(5), 5);
    }

    static void promise2UpTo160BytesOfTheTape() {
        SalvageOfDays x = fresh();
        for (int i = 0; i < 32; i++) {
            x.feed(5, 32, 32, 32, 32, 32);
        }
        is("count(6)", x.count(6), 160);
        x.text();
        is("count(6)", x.count(6), 0);
    }

    // ---- 3, cask

    static void promise3CasksAre0To11() {
        SalvageOfDays x = fresh();
        is("the first", x.cask(0, 2, 50), 0);
        is("the last", x.cask(11, 2, 50), 33);
        for (int k : beyond(0, 11)) {
            is("cask " + k, x.cask(k, 1, 1), NO_SUCH);
        }
    }

    static void promise3NoSuchCaskComesFirst() {
        SalvageOfDays x = fresh();
        is("ahead of what", x.cask(12, 4, 0), NO_SUCH);
        is("ahead of v", x.cask(-1, 0, 6), NO_SUCH);
    }

    static void promise3WhatIs0To3() {
        for (int what : beyond(0, 3)) {
            is("what " + what, fresh().cask(0, what, 0), NOT_SO);
        }
    }

    static void promise3VIs0AtLeast() {
        SalvageOfDays x = fresh();
        for (int what = 0; what < 4; what++) {
            x.cask(5, what, 1);
            is("-1 of what " + what, x.cask(5, what, -1), NOT_SO);
            is("the least int of what " + what, x.cask(5, what, MIN), NOT_SO);
            is("it stays", x.lies(5, what), 1);
            is("0 of what " + what, x.cask(5, what, 0), 1);
            is("it is", x.lies(5, what), 0);
        }
    }

    static void promise3SortIs5AtMost() {
        mostOf(0, 5);
    }

    static void promise3StrongIs99AtMost() {
        mostOf(1, 99);
    }

    static void promise3DeepIs99AtMost() {
        mostOf(2, 99);
    }

    static void promise3PlaceIs2AtMost() {
        mostOf(3, 2);
    }

    private static void mostOf(int what, int most) {
        SalvageOfDays x = fresh();
        int was = x.lies(7, what);
        is("one above", x.cask(7, what, most + 1), NOT_SO);
        is("the greatest int", x.cask(7, what, MAX), NOT_SO);
        is("it stays", x.lies(7, what), was);
        is("the most", x.cask(7, what, most), was);
        is("it is", x.lies(7, what), most);
    }

    static void promise3AnswersWhatItWas() {
        SalvageOfDays x = fresh();
        for (int what = 0; what < 4; what++) {
            x.cask(9, what, 2);
            is("then 1", x.cask(9, what, 1), 2);
            is("then 1 again", x.cask(9, what, 1), 1);
            is("then 0", x.cask(9, what, 0), 1);
        }
    }

    static void promise3NoOtherNumberChanges() {
        for (int what = 0; what < 4; what++) {
            SalvageOfDays x = fresh();
            SalvageOfDays other = fresh();
            x.cask(6, what, 2);
            for (int k = 0; k < 12; k++) {
                for (int which = 0; which < 4; which++) {
                    int due = k == 6 && which == what ? 2 : other.lies(k, which);
                    is("what " + which + " of " + k, x.lies(k, which), due);
                }
            }
        }
    }

    static void promise3GetsNothingLoose() {
        SalvageOfDays x = fresh();
        x.sky(1, 50);
        x.cask(1, 3, 1);
        x.cask(1, 3, 2);
        is("an opened one", x.bay(1), 50);
        x.cask(1, 1, 99);
        is("a stronger one", x.bay(1), 50);
        x.cask(1, 0, 2);
        is("one of another sort", x.bay(1), 50);
        is("one of another sort", x.bay(2), 0);
        x.cask(1, 3, 0);
        is("one in the wreck again", x.bay(1), 50);
    }

    static void promise3FromEachPlaceToEach() {
        for (int from = 0; from < 3; from++) {
            for (int to = 0; to < 3; to++) {
                SalvageOfDays x = fresh();
                x.cask(3, 3, from);
                is("from", x.cask(3, 3, to), from);
                is("to", x.lies(3, 3), to);
            }
        }
    }

    // ---- 4, lies

    static void promise4CasksAre0To11() {
        is("the first", fresh().lies(0, 1), 20);
        is("the last", fresh().lies(11, 2), 33);
        for (int k : beyond(0, 11)) {
            is("cask " + k, fresh().lies(k, 0), NO_SUCH);
        }
    }

    static void promise4WhatIs0To3() {
        for (int what : beyond(0, 3)) {
            is("what " + what, fresh().lies(0, what), NOT_SO);
        }
    }

    static void promise4NoSuchCaskComesFirst() {
        is("ahead of what", fresh().lies(12, 4), NO_SUCH);
        is("ahead of what", fresh().lies(-1, -1), NO_SUCH);
    }

    static void promise4LeastAndMostOfEach() {
        SalvageOfDays x = fresh();
        for (int what = 0; what < 4; what++) {
            x.cask(11, what, MOSTS[what]);
            is("the most", x.lies(11, what), MOSTS[what]);
            x.cask(11, what, 0);
            is("the least", x.lies(11, what), 0);
        }
    }

    // ---- 5, sky

    static void promise5SortsAre0To5And6IsTheHour() {
        SalvageOfDays x = fresh();
        is("the first sort", x.sky(0, 1), 0);
        is("the last sort", x.sky(5, 2), 0);
        is("the hour", x.sky(6, 3), 0);
        is("the first sort", x.bay(0), 1);
        is("the last sort", x.bay(5), 2);
        is("the hour", x.count(3), 3);
        for (int t : beyond(0, 6)) {
            is("t " + t, x.sky(t, 1), NO_SUCH);
        }
    }

    static void promise5NoSuchComesFirst() {
        is("ahead of v", fresh().sky(7, -1), NO_SUCH);
        is("ahead of v", fresh().sky(-1, 1000), NO_SUCH);
    }

    static void promise5WeatherIs0To99() {
        for (int t = 0; t < 6; t++) {
            SalvageOfDays x = fresh();
            is("the most", x.sky(t, 99), 0);
            for (int v : beyond(0, 99)) {
                is("v " + v, x.sky(t, v), NOT_SO);
            }
            is("it stays", x.bay(t), 99);
            is("the least", x.sky(t, 0), 99);
            is("it is", x.bay(t), 0);
        }
    }

    static void promise5HourIs0To999() {
        SalvageOfDays x = fresh();
        is("the last", x.sky(6, 999), 0);
        for (int v : beyond(0, 999)) {
            is("v " + v, x.sky(6, v), NOT_SO);
        }
        is("it stays", x.count(3), 999);
        is("the first", x.sky(6, 0), 999);
        is("weather's most is not the hour's", x.sky(6, 100), 0);
        is("it is", x.count(3), 100);
    }

    static void promise5NoOtherSortChanges() {
        for (int t = 0; t < 7; t++) {
            SalvageOfDays x = fresh();
            x.sky(t, 44);
            for (int u = 0; u < 6; u++) {
                is("weather of " + u, x.bay(u), u == t ? 44 : 0);
            }
            is("hour", x.count(3), t == 6 ? 44 : 0);
        }
    }

    // ---- 6, feed

    static void promise6NIs1To5() {
        SalvageOfDays x = fresh();
        for (int n : beyond(1, 5)) {
            is("n " + n, x.feed(n, 32, 32, 32, 32, 32), BAD);
        }
        is("none came", x.count(6), 0);
        is("the least", x.feed(1, 32, 32, 32, 32, 32), 1);
        is("the most", x.feed(5, 32, 32, 32, 32, 32), 6);
    }

    static void promise6BytesAre0To255() {
        SalvageOfDays x = fresh();
        is("the least", x.feed(5, 0, 0, 0, 0, 0), 5);
        is("the most", x.feed(5, 255, 255, 255, 255, 255), 10);
        for (int i = 0; i < 5; i++) {
            for (int b : beyond(0, 255)) {
                int[] bytes = new int[5];
                bytes[i] = b;
                is("byte " + i + " is " + b,
                    x.feed(5, bytes[0], bytes[1], bytes[2], bytes[3], bytes[4]), BAD);
            }
        }
        is("none came", x.count(6), 10);
    }

    static void promise6AnyOfTheFiveIsLookedAtBehindN() {
        SalvageOfDays x = fresh();
        is("the second of one", x.feed(1, 97, 256, 0, 0, 0), BAD);
        is("the third of two", x.feed(2, 97, 97, -1, 0, 0), BAD);
        is("the fourth of three", x.feed(3, 97, 97, 97, 256, 0), BAD);
        is("the fifth of four", x.feed(4, 97, 97, 97, 97, -1), BAD);
        is("none came", x.count(6), 0);
    }

    static void promise6JustTheFirstNCome() {
        for (int n = 1; n <= 5; n++) {
            SalvageOfDays x = fresh();
            is("how many", x.feed(n, 32, 32, 32, 32, 32), n);
            is("how many", x.feed(n, 10, 10, 10, 10, 10), 2 * n);
            is("as many blanks as came", x.text(), -100 - 2 * n);
        }
    }

    static void promise6TheyComeBehindAndInOrder() {
        SalvageOfDays x = fresh();
        x.feed(5, 'r', 'e', 'a', 'c', 'h');
        x.feed(5, 'e', 's', '0', ';', 'c');
        x.feed(5, 'o', 's', 't', 's', '0');
        x.feed(5, ';', 'f', 'a', 'd', 'e');
        x.feed(4, 's', '9', '8', ';', 'x');
        is("the text", x.text(), 1);
        x.force(1);
        is("what it says", x.asks(2, 0, 0), 98);
    }

    static void promise6TheTapeTakes160() {
        for (int n = 1; n <= 5; n++) {
            SalvageOfDays x = fresh();
            feedUpTo(x, 160 - n);
            is("just room for " + n, x.feed(n, 0, 0, 0, 0, 0), 160);
            is("no room for one more", x.feed(1, 0, 0, 0, 0, 0), FULL);
        }
    }

    static void promise6WithoutAllRoomNoneComes() {
        for (int n = 2; n <= 5; n++) {
            SalvageOfDays x = fresh();
            feedUpTo(x, 161 - n);
            is("one too many", x.feed(n, 0, 0, 0, 0, 0), FULL);
            is("none came", x.count(6), 161 - n);
            is("one fewer has room", x.feed(n - 1, 0, 0, 0, 0, 0), 160);
        }
    }

    static void promise6BadComesAheadOfFull() {
        SalvageOfDays x = fresh();
        feedUpTo(x, 160);
        is("n", x.feed(0, 0, 0, 0, 0, 0), BAD);
        is("n", x.feed(6, 0, 0, 0, 0, 0), BAD);
        is("a byte", x.feed(1, 256, 0, 0, 0, 0), BAD);
        is("a byte behind n", x.feed(1, 0, 0, 0, 0, -1), BAD);
        is("neither", x.feed(1, 0, 0, 0, 0, 0), FULL);
    }

    private static void feedUpTo(SalvageOfDays x, int size) {
        for (int i = 0; i < size; i++) {
            x.feed(1, 32, 0, 0, 0, 0);
        }
    }

    static void promise6AFullTapeHasRoomOnceItIsRead() {
        SalvageOfDays x = fresh();
        feedUpTo(x, 160);
        is("by a fault", x.text(), -260);
        is("then there's room", x.feed(5, 0, 0, 0, 0, 0), 5);
    }
}
