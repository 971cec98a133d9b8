/** Promises 39 to 43: the host. */
public final class HostTest {
    private static final Due DUE = new Due("HostTest");
    private static final int MIN = Integer.MIN_VALUE, MAX = Integer.MAX_VALUE;
    private static final int BAD = SalvageOfDays.BAD;

    public static void main(String[] args) {
        sheet();
        sheetRefuses();
        cell();
        cellOfSorts();
        copy();
        copyOntoItself();
        copyRefuses();
        diversBy();
        diversByLeavesOut();
        diversByRefuses();
        taken();
        takenRefuses();
        DUE.end();
    }

    private static void sheet() {
        SalvageOfDays x = new SalvageOfDays();
        for (int sort = 0; sort < 3; sort++) {
            DUE.is("39 a row of 40", x.sheet(3, sort, 40), 1);
            DUE.is("39 the last of it", x.cell(3, 39, 5), 1);
            DUE.is("39 no more", x.cell(3, 40, 5), -12);
        }
        x.sheet(0, 0, 3);
        x.cell(0, 0, 9);
        x.sheet(0, 0, 2);
        DUE.is("39 all 0", x.judge(0, 0), -1);
        DUE.is("39 none", x.sheet(0, 1, 0), 1);
        DUE.is("39 none", x.cell(0, 0, 0), -12);
        for (int n : new int[] {0, -1, 41, MIN, MAX}) {
            DUE.is("39 missing, n does not matter", x.sheet(0, -1, n), 1);
            DUE.is("39 missing", x.cell(0, 0, 0), -11);
        }
    }

    private static void sheetRefuses() {
        SalvageOfDays x = new SalvageOfDays();
        x.sheet(0, 2, 5);
        for (int s : new int[] {-1, 4, MIN, MAX}) {
            DUE.is("39 sheet", x.sheet(s, 0, -1), BAD);
            DUE.is("39 sheet, missing", x.sheet(s, -1, 0), BAD);
        }
        for (int sort : new int[] {-2, 3, MIN, MAX}) {
            DUE.is("39 sort comes ahead", x.sheet(0, sort, -1), BAD);
        }
        DUE.is("39 above 40", x.sheet(0, 0, 41), BAD);
        DUE.is("39 above 40", x.sheet(0, 0, MAX), BAD);
        DUE.is("39 below 0", x.sheet(0, 0, -1), -14);
        DUE.is("39 below 0", x.sheet(0, 0, MIN), -14);
        DUE.is("39 refused, it stays", x.cell(0, 4, 1), 1);
    }

    private static void cell() {
        SalvageOfDays x = new SalvageOfDays();
        for (int s : new int[] {-1, 4, MIN, MAX}) {
            DUE.is("40 sheet", x.cell(s, -1, 0), BAD);
        }
        DUE.is("40 nothing there", x.cell(0, -1, 0), -11);
        x.sheet(0, 2, 3);
        for (int i : new int[] {-1, 3, 40, MIN, MAX}) {
            DUE.is("40 outside", x.cell(0, i, 0), -12);
        }
        x.sky(0, 10);
        DUE.is("40 the first", x.cell(0, 0, 7), 1);
        DUE.is("40 the second", x.cell(0, 1, 4), 1);
        DUE.is("40 the last", x.cell(0, 2, 1), 1);
        DUE.is("40 as told", x.judge(0, 0), -1);
    }

    /** What a cell keeps of a number shows by the weather that it is like. */
    private static void cellOfSorts() {
        int[] fives = {5, 256 + 5, 65536 + 5, -65536 + 5, 0x7fff0005, MIN + 5};
        int[][] due = {{0, 0, 0, 0, 0, 0}, {0, 1, 0, 0, 0, 0}, {0, 1, 1, 1, 1, 1}};
        for (int sort = 0; sort < 3; sort++) {
            for (int i = 0; i < fives.length; i++) {
                SalvageOfDays x = new SalvageOfDays();
                x.sky(0, 8);
                x.sheet(0, sort, 1);
                x.cell(0, 0, fives[i]);
                DUE.is("40 sort " + sort + " of " + fives[i], x.judge(0, 0), due[sort][i] == 0 ? -1 : 0);
            }
        }
    }

    /** The numbers of a sheet of sort 2, by how few of them judge() calls like the weather. */
    private static boolean tells(SalvageOfDays x, int s, int... numbers) {
        for (int i = 0; i < numbers.length; i++) {
            x.sheet(3, 2, 1);
            x.copy(s, i, 3, 0, 1);
            x.sky(5, numbers[i] + 3);
            if (x.judge(3, 5) != -1) {
                return false;
            }
        }
        return x.cell(s, numbers.length, 0) == -12;
    }

    private static void copy() {
        SalvageOfDays x = new SalvageOfDays();
        Due.sheet(x, 0, 1, 2, 3, 4, 5);
        Due.sheet(x, 1, 11, 12, 13, 14);
        DUE.is("41 n", x.copy(0, 1, 1, 2, 2), 2);
        DUE.isTrue("41 they came", tells(x, 1, 11, 12, 2, 3));
        DUE.isTrue("41 they stay", tells(x, 0, 1, 2, 3, 4, 5));
        DUE.is("41 up to the end", x.copy(0, 3, 1, 0, 2), 2);
        DUE.isTrue("41 they came", tells(x, 1, 4, 5, 2, 3));
        DUE.is("41 none", x.copy(0, 0, 1, 0, 0), 0);
        DUE.is("41 none, at the end", x.copy(0, 5, 1, 4, 0), 0);
        DUE.is("41 all", x.copy(1, 0, 0, 1, 4), 4);
        DUE.isTrue("41 they came", tells(x, 0, 1, 4, 5, 2, 3));
    }

    private static void copyOntoItself() {
        SalvageOfDays x = new SalvageOfDays();
        Due.sheet(x, 0, 1, 2, 3, 4, 5);
        DUE.is("41 upwards", x.copy(0, 0, 0, 1, 4), 4);
        DUE.isTrue("41 as they were", tells(x, 0, 1, 1, 2, 3, 4));
        DUE.is("41 downwards", x.copy(0, 2, 0, 0, 3), 3);
        DUE.isTrue("41 as they were", tells(x, 0, 2, 3, 4, 3, 4));
    }

    private static void copyRefuses() {
        SalvageOfDays x = new SalvageOfDays();
        x.sheet(0, 2, 5);
        x.sheet(1, 1, 5);
        x.sheet(2, 2, 3);
        for (int s : new int[] {-1, 4, MIN, MAX}) {
            DUE.is("41 sheet", x.copy(s, -1, 3, -1, -1), BAD);
            DUE.is("41 sheet", x.copy(3, -1, s, -1, -1), BAD);
        }
        DUE.is("41 nothing there", x.copy(3, -1, 0, -1, -1), -11);
        DUE.is("41 nothing there", x.copy(0, -1, 3, -1, -1), -11);
        DUE.is("41 nothing there", x.copy(3, -1, 3, -1, -1), -11);
        DUE.is("41 unlike sorts", x.copy(0, -1, 1, -1, -1), -13);
        DUE.is("41 n", x.copy(0, 0, 2, 0, -1), -12);
        DUE.is("41 n", x.copy(0, 0, 2, 0, MIN), -12);
        DUE.is("41 n", x.copy(0, 0, 0, 0, MAX), -12);
        DUE.is("41 i", x.copy(0, -1, 2, 0, 1), -12);
        DUE.is("41 i", x.copy(0, 5, 2, 0, 1), -12);
        DUE.is("41 i", x.copy(0, MAX, 2, 0, 2), -12);
        DUE.is("41 i, of none", x.copy(0, 6, 2, 0, 0), -12);
        DUE.is("41 j", x.copy(0, 0, 2, -1, 1), -12);
        DUE.is("41 j", x.copy(0, 0, 2, 1, 3), -12);
        DUE.is("41 j", x.copy(0, 0, 2, MAX, 2), -12);
        DUE.is("41 j, of none", x.copy(0, 0, 2, 4, 0), -12);
    }

    private static void diversBy() {
        SalvageOfDays x = new SalvageOfDays();
        Due.sheet(x, 0, 77, 13, 50, 24, 60, 59, 99);
        DUE.is("42 three", x.diversBy(0, 2, 1, 3), 3);
        DUE.is("42 kind", x.told(0, 2), 1);
        DUE.is("42 more", x.told(0, 3), 3);
        DUE.is("42 breath", x.told(0, 0), 50);
        DUE.is("42 kind", x.told(1, 2), 2);
        DUE.is("42 breath", x.told(1, 0), 60);
        DUE.is("42 breath", x.told(2, 0), 99);
        for (int from : new int[] {0, -1, 7, 8, MIN, MAX}) {
            DUE.is("42 none asks no place", x.diversBy(0, 2, from, 0), 0);
        }
        for (int sort = 0; sort < 2; sort++) {
            x.sheet(1, sort, 2);
            x.cell(1, 0, 30);
            DUE.is("42 of a sort", x.diversBy(1, sort, 0, 1), 1);
        }
    }

    private static void diversByLeavesOut() {
        SalvageOfDays x = new SalvageOfDays();
        Due.sheet(x, 0, 60, 5, 10, 100, 10, 99, -1, 5, 20, 7, 9);
        DUE.is("42 bad ones are left out", x.diversBy(0, 2, 0, 5), 2);
        DUE.is("42 who came", x.told(0, 0), 99);
        DUE.is("42 who came", x.told(1, 0), 7);
        DUE.is("42 outside, what stood ahead came", x.diversBy(0, 2, 8, 2), -12);
        DUE.is("42 what stood ahead came", x.count(0), 3);
        DUE.is("42 one number is none", x.diversBy(0, 2, 10, 1), -12);
        DUE.is("42 below", x.diversBy(0, 2, -1, 1), -12);
        DUE.is("42 far off", x.diversBy(0, 2, MIN, 1), -12);
        DUE.is("42 far off", x.diversBy(0, 2, MAX, 6), -12);
        DUE.is("42 none came", x.count(0), 3);
        Due.sheet(x, 1, 0, 1, 0, 2, 0, 3, 0, 4, 0, 5);
        DUE.is("42 full, others are left out", x.diversBy(1, 2, 0, 5), 3);
        DUE.is("42 full", x.told(5, 0), 3);
        DUE.is("42 full, and outside", x.diversBy(1, 2, 0, 6), -12);
    }

    private static void diversByRefuses() {
        SalvageOfDays x = new SalvageOfDays();
        x.sheet(1, 2, 9);
        for (int s : new int[] {-1, 4, MIN, MAX}) {
            DUE.is("42 sheet", x.diversBy(s, 2, -1, 1), BAD);
        }
        for (int sort : new int[] {-1, 3, MIN, MAX}) {
            DUE.is("42 sort comes ahead", x.diversBy(0, sort, -1, 1), BAD);
        }
        for (int n : new int[] {-1, 7, MIN, MAX}) {
            DUE.is("42 n comes ahead", x.diversBy(0, 2, -1, n), BAD);
        }
        DUE.is("42 nothing there", x.diversBy(0, 2, -1, 1), -11);
        DUE.is("42 nothing there, of none", x.diversBy(0, 2, -1, 0), -11);
        DUE.is("42 of another sort", x.diversBy(1, 1, -1, 1), -13);
        DUE.is("42 of another sort, of none", x.diversBy(1, 0, -1, 0), -13);
    }

    private static void taken() {
        int[] kindsThatAre = {1, 1 | 2, 1 | 4, 1 | 2 | 8, 1 | 4 | 16, 1 | 32};
        SalvageOfDays x = new SalvageOfDays();
        for (int p = 0; p < 6; p++) {
            x.diver(10 * p + 3, 10);
        }
        for (int p = 0; p < 6; p++) {
            for (int kind = 0; kind < 6; kind++) {
                boolean is = (kindsThatAre[p] >> kind & 1) != 0;
                DUE.is("43 " + p + " taken for " + kind, x.taken(p, kind), is ? p : -13);
            }
            DUE.is("43 " + p + " taken for a cask", x.taken(p, 6), -13);
        }
        for (int k = 0; k < 12; k++) {
            x.cask(k, 1, 30 + k);
            x.cask(k, 3, k % 2);
            DUE.is("43 cask " + k, x.taken(6 + k, 6), 30 + k);
            for (int kind = 0; kind < 6; kind++) {
                DUE.is("43 cask " + k + " taken for " + kind, x.taken(6 + k, kind), -13);
            }
        }
    }

    private static void takenRefuses() {
        SalvageOfDays x = new SalvageOfDays();
        x.diver(0, 10);
        x.cask(5, 3, 2);
        for (int kind : new int[] {-1, 7, MIN, MAX}) {
            DUE.is("43 kind comes first", x.taken(-1, kind), BAD);
            DUE.is("43 kind comes first", x.taken(11, kind), BAD);
        }
        for (int i : new int[] {-1, 18, MIN, MAX}) {
            DUE.is("43 outside", x.taken(i, 0), -12);
            DUE.is("43 outside", x.taken(i, 6), -12);
        }
        DUE.is("43 no such diver", x.taken(1, 0), -11);
        DUE.is("43 no such diver, ahead of -13", x.taken(5, 6), -11);
        DUE.is("43 opened", x.taken(11, 6), -11);
        DUE.is("43 opened, ahead of -13", x.taken(11, 0), -11);
        DUE.is("43 not opened", x.taken(17, 6), 20);
    }
}
