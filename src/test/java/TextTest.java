/** Promises 7 to 9: texts, their faults, what they say. */
public final class TextTest {
    private static final Due DUE = new Due("TextTest");
    private static final String REST = ";costs 0;fades 0;";

    public static void main(String[] args) {
        goodTexts();
        faultsOfTokens();
        faultsOfWhatStandsWhere();
        faultsOfEnds();
        openSigns();
        textsAreNumbered();
        longTexts();
        valuesOfExpressions();
        names();
        bounds();
        force();
        asks();
        DUE.end();
    }

    private static void good(String text) {
        DUE.is("7 " + text, Due.text(new SalvageOfDays(), text), 1);
    }

    private static void goodOne(String expression) {
        good("reaches " + expression + REST);
    }

    /** A sign ^ marks where the fault is due. */
    private static void fault(String marked) {
        int place = marked.indexOf('^');
        String text = marked.substring(0, place) + marked.substring(place + 1);
        SalvageOfDays x = new SalvageOfDays();
        DUE.is("7 " + marked, Due.text(x, text), -100 - place);
        DUE.is("7 the tape is empty by a fault", x.count(6), 0);
        DUE.is("7 no text by a fault", x.count(4), 1);
    }

    private static void faultOne(String marked) {
        fault("reaches " + marked + REST);
    }

    private static void goodTexts() {
        good("reaches breath ; costs deep * 2 ; fades 3 ;  ");
        good("reaches1;costs2;fades3;");
        good("\n reaches\n1;costs\n2;fades 3;\n \n");
        goodOne("breath+deep+strong+sort+hour+more");
        goodOne("1 and 2or 3and not 4");
        goodOne("not not 1 < 2");
        goodOne("1 - - 2");
        goodOne("-2*-3");
        goodOne("(1 < 2) < 3");
        goodOne("(not 1) + 2");
        goodOne("9999");
        goodOne("0000");
    }

    private static void faultsOfTokens() {
        faultOne("^12345");
        faultOne("^00001");
        faultOne("1 + ^99999999999999999999");
        faultOne("^depth");
        faultOne("^dee");
        faultOne("^keep");
        faultOne("^deepz");
        faultOne("^adeep");
        faultOne("(^depth)");
        faultOne("- ^depth");
        faultOne("not ^depth");
        faultOne("1 + ^depth");
        faultOne("(^12345)");
        faultOne("^notnot 1");
        faultOne("^breathdeep");
        fault("^reachesbreath;costs 0;fades 0;");
        faultOne("^Deep");
        faultOne("d^Eep".replace("d^E", "^d" + "E"));
        faultOne("1 ^, 2");
        faultOne("1 ^/ 2");
        faultOne("1 ^> 2");
        faultOne("1 ^: 2");
        faultOne("1 ^. 2");
        faultOne("^\t1");
        faultOne("1 ^\r + 1");
        faultOne("^" + (char) 255);
        faultOne("^" + (char) 0);
        faultOne("^`");
        faultOne("^{");
        faultOne("^'");
    }

    private static void faultsOfWhatStandsWhere() {
        fault("^costs 0;reaches 0;fades 0;");
        fault("reaches 0;^reaches 0;fades 0;");
        fault("reaches 0;costs 0;^costs 0;");
        fault("reaches 0;^;costs 0;fades 0;");
        fault("reaches 0 ^costs 0;fades 0;");
        fault("^breath;costs 0;fades 0;");
        fault("^1;costs 0;fades 0;");
        faultOne("^");
        faultOne("1 ^2");
        faultOne("1 ^deep");
        faultOne("deep ^(1)");
        faultOne("^* 2");
        faultOne("^+ 2");
        faultOne("1 + ^+ 2");
        faultOne("1 * ^* 2");
        faultOne("1 < ^= 2");
        faultOne("1 < 2 ^< 3");
        faultOne("1 = 2 ^= 3");
        faultOne("1 = 2 ^< 3");
        faultOne("^and 1");
        faultOne("1 and ^or 2");
        faultOne("1 or ^");
        faultOne("not ^");
        faultOne("1 ^not 2");
        faultOne("1 + ^not 2");
        faultOne("1 < ^not 2");
        faultOne("- ^not 2");
        faultOne("^reaches");
        faultOne("(^)");
        faultOne("(1^");
        faultOne("1^)");
        faultOne("((1)^");
        faultOne("(1))".replace("(1))", "(1)^)"));
        fault("reaches 0;costs 0;fades 0;^;");
        fault("reaches 0;costs 0;fades 0; ^reaches");
        fault("reaches 0;costs 0;fades 0;\n ^#");
    }

    private static void faultsOfEnds() {
        fault("^");
        fault("  \n^");
        fault("reaches^");
        fault("reaches 1^");
        fault("reaches 1;^");
        fault("reaches (1 ^");
        fault("reaches 1;costs 1;fades 1^");
        fault("reaches 1;costs 1;fades 1 \n ^");
    }

    private static void openSigns() {
        goodOne("(((((1)))))");
        faultOne("(((((^(1))))))");
        goodOne("- - - - - 1");
        faultOne("- - - - - ^- 1");
        goodOne("not not not not not 1");
        faultOne("not not not not not ^not 1");
        faultOne("not - ( - ( ^- 1 ) )");
        faultOne("not ( - ( not ^( 1 ) ) )");
        faultOne("(((( not ^not 1 ))))");
        goodOne("not ( - ( not 1 ) )");
        goodOne("(((((1))))) + (((((1)))))");
        goodOne("- - - - - 1 - - - - - - 1");
        goodOne("(((( - 1 + ( 1 ) ))))");
        faultOne("(((( - ^( ( 1 ) ) ))))");
        goodOne("not not not not not 1 and (1)");
        goodOne("not not not not not 1 or not 1");
        faultOne("not not not not not 1 + ^(1)");
        faultOne("not not not not not 1 = ^- 1");
        goodOne("not not not not not 1 - 1 = 1 - 1");
    }

    private static void textsAreNumbered() {
        SalvageOfDays x = new SalvageOfDays();
        x.diver(0, 0);
        for (int i = 1; i <= 5; i++) {
            DUE.is("7 a fault takes no number", Due.text(x, "reaches 1"), -109);
            DUE.is("7 number", Due.text(x, says(i + 10, i + 20, i)), i);
            DUE.is("7 the tape is empty then", x.count(6), 0);
            DUE.is("7 count(4)", x.count(4), i + 1);
            DUE.is("7 the law stays", x.count(5), 0);
        }
        Due.feed(x, "bad");
        DUE.is("7 full, ahead of the fault", x.text(), SalvageOfDays.FULL);
        DUE.is("7 full, the tape stays", x.count(6), 3);
        DUE.is("7 full, with the tape", x.feed(1, 'x', 0, 0, 0, 0), 4);
        for (int i = 1; i <= 5; i++) {
            x.force(i);
            DUE.is("7 each text stays as it was", x.asks(2, 0, 0), i);
            DUE.is("7 nothing stays of a fault", x.asks(0, 0, 0), i + 10);
            DUE.is("7 nothing stays of a fault", x.asks(1, 0, 0), i + 20);
        }
    }

    private static String says(int reaches, int costs, int fades) {
        return "reaches " + reaches + ";costs " + costs + ";fades " + fades + ";";
    }

    /** 160 bytes with as many steps as these can ask for, and with the deepest waiting. */
    private static void longTexts() {
        StringBuilder sum = new StringBuilder("reaches 1;costs 2;fades 1");
        while (sum.length() < 158) {
            sum.append("+1");
        }
        SalvageOfDays x = Due.under(sum.append(";").toString());
        DUE.is("7 a long sum", x.asks(2, 0, 0), 68);
        String inner = "1 or 1 and 1=1+1*";
        StringBuilder nested = new StringBuilder("reaches 0;costs 0;fades ");
        for (int i = 0; i < 5; i++) {
            nested.append(inner).append('(');
        }
        nested.append("0 or 1 and 2=1+1*1)))));");
        DUE.is("7 deep waiting", Due.under(nested.toString()).asks(2, 0, 0), 1);
    }

    private static void value(String expression, int want) {
        SalvageOfDays x = Due.under("reaches 0;costs 0;fades " + expression + ";");
        DUE.is("7 by a text " + expression, x.asks(2, 0, 0), want);
    }

    private static void valuesOfExpressions() {
        value("2 + 3 * 4", 14);
        value("(2 + 3) * 4", 20);
        value("10 - 4 - 3", 3);
        value("10 - (4 - 3)", 9);
        value("- 2 + 5", 3);
        value("- (2 - 5)", 3);
        value("- 2 * - 3", 6);
        value("- - 7", 7);
        value("1 or 0 and 0", 1);
        value("(1 or 0) and 0", 0);
        value("0 or 0", 0);
        value("5 or 0", 1);
        value("0 or 7", 1);
        value("5 and 7", 1);
        value("4 and 2", 1);
        value("5 and 0", 0);
        value("0 and 5", 0);
        value("- 5 and 1", 1);
        value("7", 7);
        value("not 0", 1);
        value("not 7", 0);
        value("not - 1", 0);
        value("not not 7", 1);
        value("not 0 + 1", 0);
        value("not 1 = 2", 1);
        value("not 1 < 2", 0);
        value("not 1 and 0", 0);
        value("not (1 and 0)", 1);
        value("3 < 5", 1);
        value("5 < 5", 0);
        value("6 < 5", 0);
        value("5 = 5", 1);
        value("4 = 5", 0);
        value("1 + 1 = 2", 1);
        value("2 = 1 + 1", 1);
        value("1 < 2 and 3", 1);
        value("- 1 < 0", 1);
        value("0042", 42);
        value("9999 * 9999 * 9999 < 0", 9999 * 9999 * 9999 < 0 ? 1 : 0);
        value("9999 * 9999 * 22 < 0", 1);
        value("9999 * 9999 * 43 - 4172 * 1000 - 700", 47);
        value("1 < 9999 * 9999 * 22", 0);
    }

    private static void names() {
        String[] words = {"breath", "deep", "strong", "sort", "hour", "more"};
        int[] ofDives = {41, 17, 23, 5, 38, 7};
        int[] ofFades = {0, 0, 29, 3, 38, 0};
        for (int i = 0; i < words.length; i++) {
            String said = words[i] + ";";
            SalvageOfDays x = Due.under("reaches " + said + "costs " + said + "fades " + said);
            x.diver(9, 1);
            x.diver(7, 41);
            x.cask(6, 0, 5);
            x.cask(6, 1, 23);
            x.cask(6, 2, 17);
            x.sky(3, 29);
            x.sky(6, 38);
            DUE.is("9 reaches " + said, x.asks(0, 1, 6), ofDives[i]);
            DUE.is("9 costs " + said, x.asks(1, 1, 6), ofDives[i]);
            DUE.is("9 fades " + said, x.asks(2, 1, 3), ofFades[i]);
        }
    }

    private static void bounds() {
        SalvageOfDays x = Due.under("reaches 100;costs 0 - 1;fades 99;");
        x.diver(0, 0);
        DUE.is("9 above", x.asks(0, 0, 0), 99);
        DUE.is("9 below", x.asks(1, 0, 0), 0);
        DUE.is("9 at the bound", x.asks(2, 0, 0), 99);
        SalvageOfDays y = Due.under("reaches 9999*9999;costs 1;fades -9999*9999;");
        y.diver(0, 0);
        DUE.is("9 far above", y.asks(0, 0, 0), 99);
        DUE.is("9 far below", y.asks(2, 0, 0), 0);
    }

    private static void force() {
        SalvageOfDays x = new SalvageOfDays();
        DUE.is("8 none such", x.force(1), SalvageOfDays.BAD);
        Due.text(x, "reaches 1;costs 2;fades 33;");
        Due.text(x, "reaches 1;costs 2;fades 44;");
        DUE.is("8 which was", x.force(2), 0);
        DUE.is("8 it is the law", x.asks(2, 0, 0), 44);
        DUE.is("8 which was", x.force(1), 2);
        DUE.is("8 it is the law", x.asks(2, 0, 0), 33);
        for (int t : new int[] {-1, 3, 6, Integer.MIN_VALUE, Integer.MAX_VALUE}) {
            DUE.is("8 none such", x.force(t), SalvageOfDays.BAD);
        }
        DUE.is("8 refused, it stays", x.count(5), 1);
        DUE.is("8 as it was", x.force(0), 1);
        DUE.is("8 text 0", x.asks(2, 0, 0), 3);
    }

    private static void asks() {
        SalvageOfDays x = new SalvageOfDays();
        x.diver(19, 36);
        DUE.is("9 text 0 reaches, of a boy too", x.asks(0, 0, 11), 36);
        DUE.is("9 text 0 costs", x.asks(1, 0, 11), 66);
        DUE.is("9 text 0 fades", x.asks(2, 0, 5), 3);
        DUE.is("9 of fades p does not matter", x.asks(2, -9, 5), 3);
        for (int part : new int[] {-1, 3, Integer.MIN_VALUE, Integer.MAX_VALUE}) {
            DUE.is("9 part", x.asks(part, 0, 0), -1000);
        }
        for (int part = 0; part < 2; part++) {
            DUE.is("9 no diver", x.asks(part, 1, 0), -1000);
            DUE.is("9 no diver", x.asks(part, -1, 0), -1000);
            DUE.is("9 no cask", x.asks(part, 0, 12), -1000);
            DUE.is("9 no cask", x.asks(part, 0, -1), -1000);
        }
        DUE.is("9 no sort", x.asks(2, 0, 6), -1000);
        DUE.is("9 no sort", x.asks(2, 0, -1), -1000);
    }
}
