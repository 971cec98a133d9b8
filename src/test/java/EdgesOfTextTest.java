/** Edges of promises 7 to 9: texts and where their faults are, the law, what a text says. */
public final class EdgesOfTextTest extends Edges {
    private static final String HEAD = "reaches ";
    private static final String REST = ";costs 0;fades 0;";

    public static void main(String[] args) {
        run(EdgesOfTextTest.class, 7, 9);
    }

    private static void good(String text) {
        is(text, Due.text(fresh(), text), 1);
    }

    private static void goodOne(String expression) {
        good(HEAD + expression + REST);
    }

    /** A sign ^ marks where the fault is due. */
    private static void fault(String marked) {
        int place = marked.indexOf('^');
        String text = marked.substring(0, place) + marked.substring(place + 1);
        is(marked, Due.text(fresh(), text), -100 - place);
    }

    private static void faultOne(String marked) {
        fault(HEAD + marked + REST);
    }

    // ---- 7, the tape

    static void promise7AnEmptyTapeEndsTooEarly() {
        is("text()", fresh().text(), -100);
    }

    static void promise7BlanksAloneEndTooEarly() {
        fault(" ^");
        fault("\n^");
        fault(" \n  \n^");
    }

    static void promise7AFullTapeIsRead() {
        String law = HEAD + "1" + REST;
        good(law + " ".repeat(160 - law.length()));
        fault(law + " ".repeat(159 - law.length()) + "^x");
        fault(HEAD + " ".repeat(160 - HEAD.length()) + "^");
    }

    static void promise7TheTapeIsEmptyThen() {
        SalvageOfDays x = fresh();
        Due.text(x, ALL_STAYS);
        is("bytes", x.count(6), 0);
        is("nothing of it comes ahead of the next", Due.text(x, ALL_STAYS), 2);
    }

    static void promise7TheTapeIsEmptyByAFaultToo() {
        SalvageOfDays x = fresh();
        is("a fault", Due.text(x, "reaches 1;costs ;"), -116);
        is("bytes", x.count(6), 0);
        is("nothing of it comes ahead of the next", Due.text(x, ALL_STAYS), 1);
    }

    static void promise7TextsAreNumberedFrom0OnAnd6AtMost() {
        SalvageOfDays x = fresh();
        for (int number = 1; number <= 5; number++) {
            is("number", Due.text(x, ALL_STAYS), number);
        }
        is("no room", Due.text(x, ALL_STAYS), FULL);
        is("texts", x.count(4), 6);
    }

    static void promise7AFaultTakesNoNumber() {
        SalvageOfDays x = fresh();
        for (int i = 0; i < 7; i++) {
            is("a fault", Due.text(x, "x"), -100);
        }
        is("texts", x.count(4), 1);
        is("the next number", Due.text(x, ALL_STAYS), 1);
    }

    private static SalvageOfDays withSixTexts() {
        SalvageOfDays x = fresh();
        for (int i = 1; i <= 5; i++) {
            Due.text(x, "reaches 0;costs 0;fades " + i + ";");
        }
        return x;
    }

    static void promise7FullComesAheadOfTheFault() {
        SalvageOfDays x = withSixTexts();
        is("of an empty tape", x.text(), FULL);
        is("of a word", Due.text(x, "x"), FULL);
    }

    static void promise7ByFullTheTapeStays() {
        SalvageOfDays x = withSixTexts();
        Due.text(x, "some");
        is("bytes", x.count(6), 4);
        is("again", x.text(), FULL);
        is("bytes", x.count(6), 4);
        is("more come behind", x.feed(2, 0, 0, 0, 0, 0), 6);
    }

    static void promise7ByFullTheTextsStay() {
        SalvageOfDays x = withSixTexts();
        Due.text(x, "reaches 0;costs 0;fades 77;");
        for (int t = 1; t <= 5; t++) {
            x.force(t);
            is("fades", x.asks(2, 0, 0), t);
        }
    }

    static void promise7NothingOfAFaultStaysInTheNextText() {
        SalvageOfDays x = fresh();
        Due.text(x, "reaches 5;costs 6;fades 7 + 8 + 9;;");
        Due.text(x, "reaches 5;costs 6 * (7 + 8");
        Due.text(x, "reaches 11;costs 12;fades 13;");
        x.force(1);
        x.diver(0, 0);
        is("reaches", x.asks(0, 0, 0), 11);
        is("costs", x.asks(1, 0, 0), 12);
        is("fades", x.asks(2, 0, 0), 13);
    }

    static void promise7NothingOfAnEarlierTapeIsRead() {
        SalvageOfDays x = fresh();
        is("of digits", Due.text(x, "1".repeat(160)), -100);
        is("a number at the end", Due.text(x, "reaches 12"), -110);
        is("of letters", Due.text(x, "p".repeat(160)), -100);
        is("a name at the end", Due.text(x, "reaches deep"), -112);
        is("of blanks", Due.text(x, " ".repeat(160)), -260);
        is("a blank at the end", Due.text(x, "reaches 1 "), -110);
        is("a number that ends the fullest tape", Due.text(x, HEAD + "1+".repeat(75) + "12"), -260);
        is("a name that ends it", Due.text(x, HEAD + "1+".repeat(74) + "deep"), -260);
    }

    static void promise7BackGivesNoRoomForATextAgain() {
        SalvageOfDays x = fresh();
        x.image();
        Due.text(x, ALL_STAYS);
        x.back();
        is("the next number", Due.text(x, ALL_STAYS), 2);
    }

    // ---- 7, tokens

    static void promise7EachByteThatBeginsNoTokenIsAFault() {
        String begin = "abcdefghijklmnopqrstuvwxyz0123456789();+-*<= \n";
        int beginNone = 0;
        for (int b = 0; b < 256; b++) {
            if (begin.indexOf(b) < 0) {
                beginNone++;
                faultOne("1 ^" + (char) b);
                faultOne("^" + (char) b + " 1");
            }
        }
        is("how many begin none", beginNone, 256 - 46);
    }

    static void promise7BlanksAre32And10Alone() {
        good("\n reaches \n 1 \n\n; costs \n1 ;\n fades\n1 ;\n ");
        for (int b : new int[] {0, 9, 11, 12, 13, 31, 33, 127, 160, 255}) {
            faultOne("^" + (char) b + "1");
        }
    }

    static void promise7BlanksMayBeLeftOut() {
        good("reaches1;costs2;fades3;");
        good("reaches(deep)and not(1<2)or-1;costs 1and 2;fades 9or not 1;");
    }

    static void promise7BlanksEndATokenEarly() {
        faultOne("^dee p");
        faultOne("1 ^2");
        fault("^reach es 1" + REST);
        faultOne("1 < ^= 2");
    }

    static void promise7WordsAreAsLongAsCanBe() {
        faultOne("^deepmore");
        faultOne("^deepand 1");
        faultOne("1 and 2or 3 ^ornot 1");
        faultOne("^notdeep");
        fault("^reachesdeep" + REST);
        fault("reaches 1;^costsdeep;fades 0;");
        fault("reaches 1;costs 1;^fadessort;");
    }

    static void promise7LettersAreAToZ() {
        faultOne("deep ^A");
        faultOne("deep^Z");
        faultOne("deep^`");
        faultOne("deep^{");
        faultOne("^a");
        faultOne("^z");
        faultOne("^deepa");
        faultOne("^deepz");
    }

    static void promise7DigitsAre0To9() {
        goodOne("0909");
        goodOne("9090");
        faultOne("1^/");
        faultOne("1^:");
        faultOne("^/1");
        faultOne("^:1");
    }

    static void promise7ANumberHas4DigitsAtMost() {
        goodOne("9999");
        goodOne("0000");
        goodOne("0001");
        faultOne("^10000");
        faultOne("^00000");
        faultOne("^00001");
        faultOne("1 + ^99999999999999999999 + 1");
        faultOne("(-^12345)");
    }

    static void promise7ANumberThatIsTooLongEndsAWord() {
        faultOne("deep^12345");
        faultOne("deep ^1234");
        faultOne("1234 ^deep");
        faultOne("^12345deep");
    }

    static void promise7AWordIsNeitherKeyNorName() {
        for (String word : new String[] {"a", "reach", "cost", "fade", "nor", "an", "no", "breat",
            "depth", "stron", "sorts", "hours", "mor", "xyz"}) {
            faultOne("^" + word);
            faultOne("1 + ^" + word);
            faultOne("1 ^" + word);
            faultOne("- ^" + word + " 1");
            faultOne("(^" + word + " 1)");
            faultOne("not ^" + word + " 1");
            fault("^" + word + " 1" + REST);
            fault("reaches 1 ^" + word + REST);
        }
    }

    static void promise7AWordIsNoneIfOneLetterIsAnother() {
        String[] names = {"breath", "deep", "strong", "sort", "hour", "more"};
        for (String name : names) {
            for (int i = 0; i < name.length(); i++) {
                char other = name.charAt(i) == 'q' ? 'x' : 'q';
                faultOne("^" + name.substring(0, i) + other + name.substring(i + 1));
            }
        }
        for (int i = 0; i < "reaches".length(); i++) {
            fault("^" + "reaches".substring(0, i) + "q" + "reaches".substring(i + 1) + " 1" + REST);
        }
    }

    static void promise7EachNameStands() {
        for (String name : new String[] {"breath", "deep", "strong", "sort", "hour", "more"}) {
            good("reaches " + name + ";costs " + name + ";fades " + name + ";");
            fault("^" + name + " 1" + REST);
            faultOne("1 ^" + name);
            fault("reaches 1;costs 1;fades 1; ^" + name);
        }
    }

    static void promise7AKeyStandsWhereItIsDueAlone() {
        for (String key : new String[] {"reaches", "costs", "fades"}) {
            faultOne("^" + key);
            faultOne("1 ^" + key);
            faultOne("(^" + key + ")");
            faultOne("not ^" + key);
            faultOne("- ^" + key);
            fault("reaches 1;costs 1;fades 1; ^" + key);
        }
        fault("^costs 1;reaches 1;fades 1;");
        fault("^fades 1;costs 1;reaches 1;");
        fault("reaches 1;^reaches 1;costs 1;fades 1;");
        fault("reaches 1;^fades 1;costs 1;");
        fault("reaches 1;costs 1;^costs 1;fades 1;");
        fault("reaches 1;costs 1;^reaches 1;");
        fault("^; reaches 1" + REST);
    }

    // ---- 7, what can stand where

    static void promise7AOneIsANumberANameAMinusOrAParenthesis() {
        for (String sign : new String[] {")", ";", "+", "*", "<", "=", "and", "or"}) {
            faultOne("^" + sign);
            faultOne("1 + ^" + sign);
            faultOne("1 * ^" + sign);
            faultOne("1 < ^" + sign);
            faultOne("1 and ^" + sign);
            faultOne("not ^" + sign);
            faultOne("- ^" + sign);
            faultOne("( ^" + sign);
        }
    }

    static void promise7ANotStandsAheadOfANotOrASumAlone() {
        goodOne("not 1");
        goodOne("not not 1");
        goodOne("1 and not 1 or not 1");
        goodOne("(not 1)");
        goodOne("-(not 1)");
        goodOne("1 < (not 1)");
        faultOne("1 + ^not 1");
        faultOne("1 - ^not 1");
        faultOne("1 * ^not 1");
        faultOne("1 < ^not 1");
        faultOne("1 = ^not 1");
        faultOne("- ^not 1");
        faultOne("1 ^not 1");
        faultOne("(1) ^not 1");
    }

    static void promise7OneComparisonPerNot() {
        goodOne("1 < 2");
        goodOne("1 = 2");
        goodOne("not 1 < 2");
        goodOne("1 < 2 and 3 = 4 or 5 < 6");
        goodOne("(1 < 2) = (3 < 4)");
        goodOne("(1 < 2) < 3");
        goodOne("1 < (2 < 3)");
        faultOne("1 < 2 ^< 3");
        faultOne("1 < 2 ^= 3");
        faultOne("1 = 2 ^< 3");
        faultOne("1 = 2 ^= 3");
        faultOne("not 1 < 2 ^< 3");
        faultOne("1 < (2 < 3) ^< 4");
        faultOne("1 < (2) ^= 4");
    }

    static void promise7BehindAOneAJointOrAnEndStands() {
        for (String one : new String[] {"1", "deep", "(1)", "-1", "not 1", "1 < 2"}) {
            faultOne(one + " ^(");
            faultOne(one + " ^1");
            faultOne(one + " ^deep");
            faultOne(one + " ^not");
            faultOne(one + " ^)");
            faultOne(one + " ^reaches");
        }
    }

    static void promise7ParenthesesMustEnd() {
        faultOne("(1^");
        faultOne("((1)^");
        faultOne("1^)");
        faultOne("(1)^)");
        faultOne("(^)");
        goodOne("(((1)))");
    }

    static void promise7TheFirstFaultCounts() {
        faultOne("^12345 + depth");
        faultOne("^depth + 12345");
        faultOne("1 ^2 #");
        faultOne("^# 12345");
        faultOne("(1 + ^) ) #");
    }

    static void promise7TheTextsSizeIfItEndsTooEarly() {
        fault("reaches^");
        fault("reaches ^");
        fault("reaches 1^");
        fault("reaches 1 +^");
        fault("reaches (1^");
        fault("reaches (1)^");
        fault("reaches not^");
        fault("reaches -^");
        fault("reaches 1 <^");
        fault("reaches 1 and \n^");
        fault("reaches 1;^");
        fault("reaches 1;costs^");
        fault("reaches 1;costs 1;^");
        fault("reaches 1;costs 1;fades^");
    }

    static void promise7TheLastSemicolonMustStand() {
        fault("reaches 1;costs 1;fades 1^");
        fault("reaches 1;costs 1;fades 1 \n^");
        good("reaches 1;costs 1;fades 1;");
    }

    static void promise7NothingButBlanksStandsBehindTheLastSemicolon() {
        good("reaches 1;costs 1;fades 1; \n ");
        for (String token : new String[] {";", "1", "deep", "reaches", "#", "not", "(", "12345"}) {
            fault("reaches 1;costs 1;fades 1;^" + token);
            fault("reaches 1;costs 1;fades 1; \n^" + token);
        }
    }

    // ---- 7, what is open

    static void promise7FiveParenthesesAreOpen() {
        goodOne("(((((1)))))");
        faultOne("(((((^(1))))))");
    }

    static void promise7FiveNotsAreOpen() {
        goodOne("not not not not not 1");
        faultOne("not not not not not ^not 1");
    }

    static void promise7FiveMinusesAreOpen() {
        goodOne("-----1");
        faultOne("-----^-1");
    }

    static void promise7WhileFiveAreOpenNoneOfThemStands() {
        for (String open : new String[] {"(((((", "-----", "not not not not not ",
            "((not(-", "not-(-(", "(-(not not ", "(-(-("}) {
            faultOne(open + "^(");
            faultOne(open + "^-");
            faultOne(open + "^not");
        }
    }

    static void promise7ANumberStandsWhileFiveAreOpen() {
        goodOne("((((( 1 + deep * 2 - 3 < 4 and 5 or 6 )))))");
        goodOne("not not not not not 1 - 2 * 3 = deep");
        goodOne("----- deep - 1");
    }

    static void promise7AMinusBetweenTwoIsNotOpen() {
        goodOne("(((((1 - 1 - 1)))))");
        goodOne("1-1-1-1-1-1-1-1-1");
        goodOne("not not not not not 1 - 1");
        faultOne("(((((1 - ^-1)))))");
    }

    static void promise7AParenthesisIsOpenTillItsEnd() {
        goodOne("((((1) + (1))))");
        goodOne("(((((1))))) + (((((1)))))");
        goodOne("((((1) + (1))) + (((1))))");
        faultOne("((((1) + ((^(1");
        faultOne("(((((1) + (^(1");
    }

    static void promise7AMinusIsOpenTillItsOneEnds() {
        goodOne("-----1 + -----1");
        goodOne("-----1 * -----1");
        goodOne("-----1 - -----1");
        goodOne("----(1) + (((((1)))))");
        goodOne("((((-1 + (1)))))");
        faultOne("-(((( ^(1");
        faultOne("----(^-1");
        faultOne("((((-^(1");
    }

    static void promise7ANotIsOpenTillItsNotEnds() {
        goodOne("not not not not not 1 and (1)");
        goodOne("not not not not not 1 or -1");
        goodOne("not not not not not 1 and not 1");
        goodOne("((((not 1) + (1))))");
        faultOne("not not not not not 1 + ^(1)");
        faultOne("not not not not not 1 * ^-1");
        faultOne("not not not not not 1 < ^(1)");
        faultOne("not not not not not 1 = ^-1");
        faultOne("((((not 1 < ^(1");
        goodOne("((((not 1 and (1)))))");
    }

    static void promise7WhatIsOpenIsCountedAnewInEachPart() {
        good("reaches -----1;costs -----1;fades -----1;");
        good("reaches not not not not not 1;costs (((((1)))));fades -----1;");
    }

    // ---- 8, force

    static void promise8TextsAreFrom0ToTheLast() {
        SalvageOfDays x = fresh();
        is("the first", x.force(0), 0);
        for (int t : beyond(0, 0)) {
            is("text " + t, x.force(t), BAD);
        }
        x = withSixTexts();
        is("the last", x.force(5), 0);
        for (int t : beyond(0, 5)) {
            is("text " + t, x.force(t), BAD);
        }
        is("refused, the law stays", x.count(5), 5);
    }

    static void promise8AnswersWhichWas() {
        SalvageOfDays x = withSixTexts();
        is("0 was", x.force(3), 0);
        is("3 was", x.force(3), 3);
        is("3 was", x.force(5), 3);
        is("5 was", x.force(0), 5);
    }

    static void promise8ATextWithAFaultIsNone() {
        SalvageOfDays x = fresh();
        Due.text(x, "reaches 1;costs 1;fades 1");
        is("text 1", x.force(1), BAD);
        is("the law stays", x.count(5), 0);
    }

    // ---- 9, asks

    static void promise9PartIs0To2() {
        SalvageOfDays x = fresh();
        x.diver(0, 50);
        is("the first", x.asks(0, 0, 0), 50);
        is("the last", x.asks(2, 0, 0), 3);
        for (int part : beyond(0, 2)) {
            is("part " + part, x.asks(part, 0, 0), UNKNOWN);
        }
    }

    static void promise9OfADiverThatIsThere() {
        SalvageOfDays x = fresh();
        for (int part = 0; part < 2; part++) {
            is("no diver yet", x.asks(part, 0, 0), UNKNOWN);
        }
        x.diver(0, 10);
        x.diver(0, 20);
        for (int part = 0; part < 2; part++) {
            for (int p : beyond(0, 1)) {
                is("diver " + p, x.asks(part, p, 0), UNKNOWN);
            }
        }
        is("the first", x.asks(0, 0, 0), 10);
        is("the last", x.asks(0, 1, 0), 20);
    }

    static void promise9CasksAre0To11() {
        SalvageOfDays x = fresh();
        x.diver(0, 10);
        is("the first", x.asks(1, 0, 0), 0);
        is("the last", x.asks(1, 0, 11), 66);
        for (int part = 0; part < 2; part++) {
            for (int k : beyond(0, 11)) {
                is("cask " + k, x.asks(part, 0, k), UNKNOWN);
            }
        }
    }

    static void promise9SortsAre0To5() {
        SalvageOfDays x = fresh();
        x.diver(0, 10);
        is("the first", x.asks(2, 0, 0), 3);
        is("the last", x.asks(2, 0, 5), 3);
        for (int t : beyond(0, 5)) {
            is("sort " + t, x.asks(2, 0, t), UNKNOWN);
        }
    }

    static void promise9OfFadesPDoesNotMatter() {
        for (int p : new int[] {MIN, -1, 0, 5, 6, MAX}) {
            is("p " + p, fresh().asks(2, p, 3), 3);
        }
    }

    static void promise9BeTheCaskWhereItMay() {
        SalvageOfDays x = fresh();
        x.diver(0, 10);
        for (int place = 0; place < 3; place++) {
            x.cask(4, 3, place);
            is("costs", x.asks(1, 0, 4), 24);
        }
    }

    static void promise9NotByTheKind() {
        for (int kind = 0; kind < 6; kind++) {
            SalvageOfDays x = fresh();
            x.diver(10 * kind + 9, 77);
            is("reaches", x.asks(0, 0, 5), 77);
            is("costs", x.asks(1, 0, 5), 30);
        }
    }

    // ---- 9, what names stand for

    static void promise9OfFadesBreathDeepAndMoreAre0() {
        for (String name : new String[] {"breath", "deep", "more"}) {
            SalvageOfDays x = Due.under("reaches 0;costs 0;fades 7 - " + name + ";");
            x.diver(9, 99);
            x.sky(3, 44);
            is("fades 7 less " + name, x.asks(2, 0, 3), 7);
        }
    }

    static void promise9OfFadesStrongIsItsWeather() {
        SalvageOfDays x = Due.under("reaches 0;costs 0;fades strong;");
        skyOf(x, 0, 11, 22, 33, 99, 55);
        int[] sky = {0, 11, 22, 33, 99, 55};
        for (int t = 0; t < 6; t++) {
            is("of sort " + t, x.asks(2, 0, t), sky[t]);
        }
    }

    static void promise9OfFadesSortIsTheSort() {
        SalvageOfDays x = Due.under("reaches 0;costs 0;fades sort;");
        for (int t = 0; t < 6; t++) {
            is("of sort " + t, x.asks(2, 0, t), t);
        }
    }

    static void promise9HourIsTheHour() {
        SalvageOfDays x = Due.under("reaches hour;costs hour - 900;fades hour - 950;");
        x.diver(0, 0);
        x.sky(6, 0);
        is("reaches", x.asks(0, 0, 0), 0);
        x.sky(6, 999);
        is("reaches", x.asks(0, 0, 0), 99);
        is("costs", x.asks(1, 0, 0), 99);
        is("fades", x.asks(2, 0, 0), 49);
    }

    static void promise9EachNameIsItsOwnNumber() {
        String[] names = {"breath", "deep", "strong", "sort", "hour", "more"};
        int[] due = {61, 52, 43, 4, 35, 6};
        for (int i = 0; i < names.length; i++) {
            SalvageOfDays x = Due.under("reaches " + names[i] + ";costs " + names[i] + ";fades 0;");
            x.diver(1, 2);
            x.diver(6, 61);
            x.cask(8, 0, 4);
            x.cask(8, 1, 43);
            x.cask(8, 2, 52);
            x.sky(6, 35);
            x.sky(4, 77);
            for (int part = 0; part < 2; part++) {
                is(names[i] + " in part " + part, x.asks(part, 1, 8), due[i]);
                is(names[i] + " by dives", x.dives(1, 8, part), due[i]);
            }
        }
    }

    static void promise9NamesAtTheirLeastAndMost() {
        String[] names = {"breath", "deep", "strong", "sort", "more"};
        int[] mosts = {99, 99, 99, 5, 9};
        for (int i = 0; i < names.length; i++) {
            SalvageOfDays x = Due.under("reaches " + names[i] + ";costs " + names[i] + ";fades 0;");
            x.diver(9, 99);
            x.diver(0, 0);
            x.cask(2, 0, 5);
            x.cask(2, 1, 99);
            x.cask(2, 2, 99);
            x.cask(0, 1, 0);
            for (int part = 0; part < 2; part++) {
                is("the most of " + names[i], x.asks(part, 0, 2), mosts[i]);
                is("the least of " + names[i], x.asks(part, 1, 0), 0);
            }
        }
    }

    // ---- 9, an E is an int and held between 0 and 99 in the end

    private static void value(String expression, int want) {
        SalvageOfDays x = Due.under("reaches " + expression + ";costs 0;fades 0;");
        x.diver(0, 0);
        is(expression, x.asks(0, 0, 0), want);
        SalvageOfDays y = Due.under("reaches 0;costs 0;fades " + expression + ";");
        is("fades " + expression, y.asks(2, 0, 0), want);
    }

    static void promise9EachPartIsHeldAt0() {
        SalvageOfDays x = Due.under("reaches -1;costs 0-1;fades 5-6;");
        x.diver(0, 0);
        for (int part = 0; part < 3; part++) {
            is("part " + part, x.asks(part, 0, 0), 0);
        }
        value("0", 0);
        value("1 - 1", 0);
        value("-9999 * 9999", 0);
        value("1", 1);
    }

    static void promise9EachPartIsHeldAt99() {
        SalvageOfDays x = Due.under("reaches 100;costs 99+1;fades 101;");
        x.diver(0, 0);
        for (int part = 0; part < 3; part++) {
            is("part " + part, x.asks(part, 0, 0), 99);
        }
        value("98", 98);
        value("99", 99);
        value("9999 * 9999", 99);
    }

    static void promise9NotHeldOnTheWay() {
        value("100 - 50", 50);
        value("(100) - (50)", 50);
        value("(1 - 2) + 3", 2);
        value("(100 < 101) * 3", 3);
        value("1000 - 999", 1);
    }

    static void promise9ProductsWrap() {
        value("4096 * 4096 * 256", 0);
        value("4096 * 4096 * 256 + 7", 7);
        value("4096 * 4096 * 128 < 0", 1);
        value("4096 * 4096 * 128 - 1 < 0", 0);
        value("4096 * 4096 * 384 < 0", 1);
        value("4096 * 4096 * 127 < 0", 0);
    }

    static void promise9SumsWrap() {
        value("4096 * 4096 * 127 + 4096 * 4096 < 0", 1);
        value("4096 * 4096 * 127 + 4096 * 4096", 0);
        value("4096 * 4096 * 127 + 4096 * 4096 - 1", 99);
        value("4096 * 4096 * 64 + 4096 * 4096 * 64 = 4096 * 4096 * 128", 1);
    }

    static void promise9DifferencesWrap() {
        value("4096 * 4096 * 128 - 1", 99);
        value("-4096 * 4096 * 64 - 4096 * 4096 * 64 - 1 < 0", 0);
        value("4096 * 4096 * 128 - 1 - 4096 * 4096 * 128", 0);
    }

    static void promise9TheLeastIntStaysByAMinus() {
        value("-(4096 * 4096 * 128) < 0", 1);
        value("-(4096 * 4096 * 128) = 4096 * 4096 * 128", 1);
        value("-(4096 * 4096 * 128)", 0);
        value("-(4096 * 4096 * 128 + 1)", 99);
    }

    static void promise9AComparisonDoesNotWrap() {
        value("4096 * 4096 * 128 < 1", 1);
        value("1 < 4096 * 4096 * 128", 0);
        value("4096 * 4096 * 128 < 4096 * 4096 * 128 - 1", 1);
        value("4096 * 4096 * 128 - 1 < 4096 * 4096 * 128", 0);
    }

    static void promise9WhatIsNot0IsTrue() {
        value("not 2", 0);
        value("not -1", 0);
        value("not (4096 * 4096 * 128)", 0);
        value("not 0", 1);
        value("not (4096 * 4096 * 256)", 1);
        value("2 and 4", 1);
        value("-1 and 2", 1);
        value("256 and 4096 * 4096", 1);
        value("0 and 2", 0);
        value("2 and 0", 0);
        value("0 or 2", 1);
        value("-1 or 0", 1);
        value("2 or 4", 1);
        value("0 or 0", 0);
    }

    static void promise9Are1Or0() {
        value("(5 and 7) + (5 or 7) + (not 0) + (1 < 9) + (9 = 9)", 5);
        value("9 + (5 and 0) + (0 or 0) + (not 7)", 9);
        value("9 + (0 and 0) + (9 < 9) + (9 = 8)", 9);
    }

    static void promise9LessAndLikeAtTheEdge() {
        value("4 < 5", 1);
        value("5 < 5", 0);
        value("6 < 5", 0);
        value("4 = 5", 0);
        value("5 = 5", 1);
        value("6 = 5", 0);
        value("-1 < 0", 1);
        value("0 < -1", 0);
    }

    static void promise9WhatBindsHow() {
        value("2 + 3 * 4", 14);
        value("3 * 4 + 2", 14);
        value("(2 + 3) * 4", 20);
        value("20 - 5 - 3", 12);
        value("20 - 5 + 3", 18);
        value("-2 + 5", 3);
        value("5 * -2 + 12", 2);
        value("1 or 0 and 0", 1);
        value("0 and 0 or 1", 1);
        value("not 1 = 2", 1);
        value("not 0 + 1", 0);
        value("not 0 and 0", 0);
        value("not 1 or 1", 1);
        value("1 + 1 = 2", 1);
        value("1 < 1 + 1", 1);
        value("not not 5", 1);
        value("- - 5", 5);
    }
}
