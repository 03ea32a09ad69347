/** Promises 25 to 29: sheet, cell, copy, learners, taken. */
public final class HostTest {
    private static final int BAD = FootOnTheOtherPedal.BAD, NONE = FootOnTheOtherPedal.NONE;
    private static final int LOW = Integer.MIN_VALUE, HIGH = Integer.MAX_VALUE;
    private static final Due DUE = new Due();

    public static void main(String[] args) {
        sheets();
        cells();
        copies();
        copyRefuses();
        learners();
        learnersRefuses();
        taken();
        DUE.end();
    }

    /** An object whose only learner learns nothing: tells(.., 0) is the first item that is not its SKILL. */
    private static FootOnTheOtherPedal reader(int skill) {
        FootOnTheOtherPedal x = Due.ruled("teaches 0; fades 0; nerves 0;");
        x.learner(0, 0);
        x.set(10, 0, skill);
        return x;
    }

    private static void holds(FootOnTheOtherPedal x, String what, int sheet, int... skills) {
        for (int k = 0; k < skills.length; k++) {
            x.sheet(3, 0, 1);
            x.copy(sheet, k, 3, 0, 1);
            x.set(10, 0, skills[k]);
            DUE.is(what + ": item " + k, x.tells(3, 0, 0, 0), NONE);
        }
        DUE.is(what + ": no more", x.cell(sheet, skills.length, 0), -12);
    }

    private static void sheets() {
        FootOnTheOtherPedal x = reader(0);
        for (int sheet = 0; sheet < 4; sheet++) {
            DUE.is("25: of 40", x.sheet(sheet, sheet % 3, 40), 1);
            DUE.is("25: all 0", x.tells(sheet, 0, 0, 0), NONE);
            x.cell(sheet, 39, 5);
            DUE.is("25: 40 items", x.cell(sheet, 40, 5), -12);
            DUE.is("25: the last isn't", x.tells(sheet, 0, 0, 0), 39);
            DUE.is("25: anew", x.sheet(sheet, 2 - sheet % 3, 40), 1);
            DUE.is("25: all 0 again", x.tells(sheet, 0, 0, 0), NONE);
            DUE.is("25: of none", x.sheet(sheet, 0, 0), 1);
            DUE.is("25: of none", x.cell(sheet, 0, 0), -12);
            DUE.is("25: missing", x.sheet(sheet, -1, sheet % 2 == 0 ? HIGH : LOW), 1);
            DUE.is("25: missing", x.cell(sheet, 0, 0), -11);
        }
        int[][] bad = {{-1, 0, 0}, {4, 0, 0}, {0, -2, 0}, {0, 3, 0}, {0, 0, 41}, {0, 2, HIGH}, {4, -1, 0},
            {4, 0, -1}, {0, 3, -1}};
        x.sheet(0, 1, 2);
        for (int[] c : bad) {
            DUE.is("25: sheet" + java.util.Arrays.toString(c), x.sheet(c[0], c[1], c[2]), BAD);
        }
        DUE.is("25: below 0", x.sheet(0, 0, -1), -14);
        DUE.is("25: below 0", x.sheet(0, 2, LOW), -14);
        DUE.is("25: refused: it stays", x.cell(0, 1, 0), 1);
        DUE.is("25: refused: its sort", x.learners(0, 1, 0, 0), 0);
    }

    private static void cells() {
        FootOnTheOtherPedal x = reader(44);
        int[][] all = {{0, 44, 1}, {0, 300, 1}, {0, 44 - 256, 1}, {0, 65536 + 44, 1}, {0, 45, 0}, {1, 44, 1},
            {1, 300, 0}, {1, 65536 + 44, 1}, {1, 44 - 65536, 1}, {2, 44, 1}, {2, 300, 0}, {2, 65536 + 44, 0},
            {2, LOW + 44, 0}, {1, LOW + 44, 1}};
        for (int[] c : all) {
            x.sheet(1, c[0], 2);
            x.cell(1, 1, 44);
            DUE.is("26: cell", x.cell(1, 0, c[1]), 1);
            DUE.is("26: " + c[1] + " of sort " + c[0], x.tells(1, 0, 0, 0), c[2] == 1 ? NONE : 0);
        }
        DUE.is("26: no such sheet", x.cell(4, 0, 0), BAD);
        DUE.is("26: no such sheet", x.cell(-1, 0, 0), BAD);
        DUE.is("26: missing", x.cell(2, -1, 0), -11);
        int[] outside = {-1, 2, 40, LOW, HIGH};
        for (int i : outside) {
            DUE.is("26: place " + i, x.cell(1, i, 0), -12);
        }
    }

    private static void copies() {
        FootOnTheOtherPedal x = reader(0);
        Due.row(x, 0, 1, 1, 2, 3, 4, 5, 6);
        Due.row(x, 1, 1, 11, 12, 13);
        DUE.is("27: to another", x.copy(0, 2, 1, 1, 2), 2);
        x.sheet(2, 1, 3);
        x.copy(1, 0, 2, 0, 3);
        Due.row(x, 1, 0, 11, 3, 4);
        holds(x, "27: as bytes", 1, 11, 3, 4);
        Due.row(x, 2, 0, 1, 2, 3, 4, 5, 6);
        DUE.is("27: onward in itself", x.copy(2, 0, 2, 2, 4), 4);
        holds(x, "27: as they were", 2, 1, 2, 1, 2, 3, 4);
        DUE.is("27: backward in itself", x.copy(2, 2, 2, 1, 4), 4);
        holds(x, "27: as they were", 2, 1, 1, 2, 3, 4, 4);
        DUE.is("27: none", x.copy(2, 6, 2, 6, 0), 0);
        DUE.is("27: all onto itself", x.copy(2, 0, 2, 0, 6), 6);
        holds(x, "27: as they were", 2, 1, 1, 2, 3, 4, 4);
        Due.row(x, 0, 2, 0, 0, 300);
        Due.row(x, 1, 2, 0, 0, 0);
        x.copy(0, 2, 1, 1, 1);
        x.set(10, 0, 0);
        DUE.is("27: whole ints", x.tells(1, 0, 0, 0), 1);
    }

    private static void copyRefuses() {
        FootOnTheOtherPedal x = reader(7);
        Due.row(x, 0, 0, 7, 7, 7);
        Due.row(x, 1, 1, 7, 7, 7);
        Due.row(x, 3, 0, 8, 8);
        int[][] all = {{4, 0, 0, 0, 0, BAD}, {-1, 0, 2, 0, 0, BAD}, {2, 0, 4, 0, 0, BAD}, {0, 0, -1, 9, 9, BAD},
            {2, 9, 0, 9, 9, -11}, {1, 9, 2, 9, 9, -11}, {2, 0, 2, 0, 0, -11}, {0, 9, 1, 9, 9, -13},
            {1, 0, 0, 0, -1, -13}, {0, -1, 3, 0, 1, -12}, {0, 0, 3, -1, 1, -12}, {0, 0, 3, 0, -1, -12},
            {0, 0, 3, 0, 3, -12}, {0, 2, 3, 0, 2, -12}, {0, 3, 3, 0, 1, -12}, {0, 4, 3, 0, 0, -12},
            {0, 0, 3, 3, 0, -12}, {0, 0, 3, 1, 2, -12}, {0, HIGH, 3, 0, HIGH, -12}, {0, 1, 3, 0, HIGH, -12},
            {0, 0, 3, HIGH, 1, -12}, {0, LOW, 3, 0, LOW, -12}, {0, 0, 3, 0, LOW, -12}};
        for (int[] c : all) {
            DUE.is("27: copy" + java.util.Arrays.toString(c), x.copy(c[0], c[1], c[2], c[3], c[4]), c[5]);
        }
        x.set(10, 0, 8);
        DUE.is("27: refused: nothing came", x.tells(3, 0, 0, 0), NONE);
    }

    private static void learners() {
        FootOnTheOtherPedal x = new FootOnTheOtherPedal();
        Due.row(x, 0, 1, 0, 9, 6, 0, 1, 10, -1, 3, 2, -1, 5, 4, 3);
        DUE.is("28: others are left out", x.learners(0, 1, 0, 5), 1);
        DUE.is("28: one came", x.count(0), 1);
        DUE.is("28: its number", x.told(0, 2), 9);
        DUE.is("28: its kind", x.told(0, 5), 0);
        DUE.is("28: the last has no number", x.learners(0, 1, 10, 2), -12);
        DUE.is("28: what stood ahead came", x.count(0), 2);
        DUE.is("28: its kind", x.told(1, 5), 5);
        DUE.is("28: its number", x.told(1, 2), 4);
        DUE.is("28: none", x.learners(0, 1, 0, 0), 0);
        DUE.is("28: none, wherever", x.learners(0, 1, 99, 0), 0);
        int[] outside = {-1, 12, 13, 40, LOW, HIGH, HIGH - 1};
        for (int from : outside) {
            DUE.is("28: from " + from, x.learners(0, 1, from, 1), -12);
        }
        DUE.is("28: none of these came", x.count(0), 2);
        Due.row(x, 1, 2, 1, 1, 1, 2, 1, 3, 1, 4, 1, 5);
        DUE.is("28: till it is full", x.learners(1, 2, 0, 5), 3);
        DUE.is("28: the last", x.told(4, 2), 3);
        DUE.is("28: full", x.learners(1, 2, 0, 5), 0);
        DUE.is("28: full, but a place is outside", x.learners(1, 2, 2, 5), -12);
        Due.row(x, 2, 0, 256 + 4, 256 + 6);
        x.image();
        FootOnTheOtherPedal y = new FootOnTheOtherPedal();
        Due.row(y, 2, 0, 256 + 4, 256 + 6);
        DUE.is("28: of bytes", y.learners(2, 0, 0, 1), 1);
        DUE.is("28: by their lowest 8 bits", y.told(0, 2), 6);
    }

    private static void learnersRefuses() {
        FootOnTheOtherPedal x = new FootOnTheOtherPedal();
        Due.row(x, 0, 1, 0, 0, 0, 0);
        int[][] all = {{4, 1, 0, 1, BAD}, {-1, 1, 0, 1, BAD}, {0, -1, 0, 1, BAD}, {0, 3, 0, 1, BAD}, {0, 1, 0, -1, BAD},
            {0, 1, 0, 6, BAD}, {0, 0, 0, 1, -13}, {0, 2, 9, 1, -13}, {0, 2, 0, 0, -13}, {1, 0, 0, 1, -11},
            {1, 2, 9, 0, -11}, {1, 3, 0, 0, BAD}, {1, 0, 0, 6, BAD}};
        for (int[] c : all) {
            DUE.is("28: learners" + java.util.Arrays.toString(c), x.learners(c[0], c[1], c[2], c[3]), c[4]);
        }
        DUE.is("28: refused: none came", x.count(0), 0);
    }

    private static void taken() {
        FootOnTheOtherPedal x = new FootOnTheOtherPedal();
        int[] over = {1, 1 + 2, 1 + 4, 1 + 2 + 8, 1 + 4 + 16};
        for (int kind = 0; kind < 5; kind++) {
            x.learner(kind, kind + 3);
            for (int k = 0; k < 6; k++) {
                DUE.is("29: " + kind + " as " + k, x.taken(kind, k), (over[kind] >> k & 1) == 1 ? kind + 3 : -13);
            }
        }
        FootOnTheOtherPedal y = new FootOnTheOtherPedal();
        y.learner(5, 9);
        for (int k = 0; k < 6; k++) {
            DUE.is("29: 5 as " + k, y.taken(0, k), k == 0 || k == 5 ? 9 : -13);
        }
        int[] bad = {-1, 6, LOW, HIGH};
        for (int k : bad) {
            DUE.is("29: kind " + k, y.taken(0, k), BAD);
            DUE.is("29: BAD ahead", y.taken(1, k), BAD);
        }
        int[] none = {1, -1, 5, LOW, HIGH};
        for (int one : none) {
            DUE.is("29: learner " + one, y.taken(one, 0), -11);
        }
    }
}
