/** Promises 25 to 29 and what "Terms" say of SHEETS, at their edges: each sentence by itself. */
public final class HostEdgeTest {
    private static final int NONE = FootOnTheOtherPedal.NONE, BAD = FootOnTheOtherPedal.BAD;
    private static final int LOW = Integer.MIN_VALUE, HIGH = Integer.MAX_VALUE;
    private static final Due DUE = new Due();

    public static void main(String[] args) {
        allAreMissingAtFirst();
        sheetsOf0And40();
        sheetsAreAll0();
        nDoesNotMatterToMissing();
        aRefusedSheetStays();
        theFirstAndTheLastItem();
        theLowestBits();
        copyOfNoneAndAll();
        copyUpToTheEnd();
        copyAsTheyWere();
        copyAndItsOrder();
        copyKeepsItems();
        learnersTwoByTwo();
        learnersOfNone();
        learnersAtTheEnd();
        learnersLeftOut();
        learnersTillItIsFull();
        learnersOfEachSort();
        takenByKind();
        takenByOrder();
        DUE.end();
    }

    /** An object whose only learner learns nothing: of a row of one, tells(.., 5) is the item. */
    private static FootOnTheOtherPedal reader() {
        FootOnTheOtherPedal x = Due.ruled("teaches 0; fades 0; nerves 0;");
        x.learner(0, 0);
        return x;
    }

    /** What stands in a SHEET of a sort, read by SHEET 3. */
    private static void holds(String call, FootOnTheOtherPedal x, int sheet, int sort, int... items) {
        for (int k = 0; k < items.length; k++) {
            x.sheet(3, sort, 1);
            DUE.is(call + ": there is item " + k, x.copy(sheet, k, 3, 0, 1), 1);
            DUE.is(call + ": item " + k, x.tells(3, 0, 0, 5), items[k]);
        }
        DUE.is(call + ": that is all", x.copy(sheet, items.length, 3, 0, 1), -12);
    }

    private static void allAreMissingAtFirst() {
        FootOnTheOtherPedal x = reader();
        for (int sheet = 0; sheet < 4; sheet++) {
            DUE.is("26: missing", x.cell(sheet, 0, 0), -11);
            DUE.is("27: missing", x.copy(sheet, 0, sheet, 0, 0), -11);
            DUE.is("18: missing", x.tells(sheet, 0, 0, 0), -11);
            for (int sort = 0; sort < 3; sort++) {
                DUE.is("28: missing", x.learners(sheet, sort, 0, 0), -11);
            }
        }
        DUE.is("26: no fifth", x.cell(4, 0, 0), BAD);
        DUE.is("25: no fifth", x.sheet(4, 0, 1), BAD);
        DUE.is("25: one alone", x.sheet(2, 0, 1), 1);
        DUE.is("26: the others stay missing", x.cell(1, 0, 0), -11);
        DUE.is("26: the others stay missing", x.cell(3, 0, 0), -11);
    }

    private static void sheetsOf0And40() {
        FootOnTheOtherPedal x = reader();
        int[] sizes = {0, 1, 2, 39, 40};
        for (int sort = 0; sort < 3; sort++) {
            for (int size : sizes) {
                DUE.is("25: of " + size, x.sheet(0, sort, size), 1);
                DUE.is("26: the last", x.cell(0, size - 1, 0), size == 0 ? -12 : 1);
                DUE.is("26: behind it", x.cell(0, size, 0), -12);
                DUE.is("18: all 0", x.tells(0, 0, 0, 0), NONE);
                DUE.is("28: of that sort", x.learners(0, sort, 0, 0), 0);
                DUE.is("28: of no other", x.learners(0, (sort + 1) % 3, 0, 0), -13);
                DUE.is("28: of no other", x.learners(0, (sort + 2) % 3, 0, 0), -13);
            }
            DUE.is("25: of 41", x.sheet(0, sort, 41), BAD);
            DUE.is("25: of -1", x.sheet(0, sort, -1), -14);
        }
    }

    private static void sheetsAreAll0() {
        FootOnTheOtherPedal x = reader();
        for (int sort = 0; sort < 3; sort++) {
            x.sheet(0, sort, 40);
            for (int item = 0; item < 40; item++) {
                x.cell(0, item, 7);
            }
            x.sheet(0, sort, 20);
            DUE.is("25: all 0 anew", x.tells(0, 0, 0, 0), NONE);
            x.sheet(0, sort, 40);
            DUE.is("25: all 0, also what stood behind", x.tells(0, 0, 0, 0), NONE);
            x.cell(0, 39, 7);
            x.sheet(0, -1, 0);
            x.sheet(0, sort, 40);
            DUE.is("25: all 0 behind missing", x.tells(0, 0, 0, 0), NONE);
        }
    }

    private static void nDoesNotMatterToMissing() {
        FootOnTheOtherPedal x = reader();
        int[] all = {0, 1, 40, 41, -1, LOW, HIGH};
        for (int n : all) {
            x.sheet(1, 0, 3);
            DUE.is("25: missing, n " + n, x.sheet(1, -1, n), 1);
            DUE.is("26: missing, n " + n, x.cell(1, 0, 0), -11);
            DUE.is("25: missing again, n " + n, x.sheet(1, -1, n), 1);
        }
    }

    private static void aRefusedSheetStays() {
        FootOnTheOtherPedal x = reader();
        Due.row(x, 1, 1, 4, 5, 6);
        int[][] all = {{0, 41, BAD}, {2, HIGH, BAD}, {0, -1, -14}, {2, LOW, -14}, {3, 1, BAD}, {-2, 1, BAD}, {3, -1, BAD}};
        for (int[] row : all) {
            DUE.is("25: sort " + row[0] + ", n " + row[1], x.sheet(1, row[0], row[1]), row[2]);
            holds("25: refused", x, 1, 1, 4, 5, 6);
        }
    }

    private static void theFirstAndTheLastItem() {
        FootOnTheOtherPedal x = reader();
        x.sheet(0, 2, 5);
        DUE.is("26: the first", x.cell(0, 0, 1), 1);
        DUE.is("26: the last", x.cell(0, 4, 9), 1);
        DUE.is("26: ahead of the first", x.cell(0, -1, 7), -12);
        DUE.is("26: behind the last", x.cell(0, 5, 7), -12);
        holds("26: cells", x, 0, 2, 1, 0, 0, 0, 9);
        x.cell(0, 0, 2);
        holds("26: once more", x, 0, 2, 2, 0, 0, 0, 9);
    }

    private static void theLowestBits() {
        // Of 44 and so much more, bytes and shorts keep 44.
        int[][] all = {{44, 1, 1, 1}, {256 + 44, 1, 0, 0}, {-256 + 44, 1, 0, 0}, {65536 + 44, 1, 1, 0},
            {-65536 + 44, 1, 1, 0}, {LOW + 44, 1, 1, 0}, {32768 + 44, 1, 0, 0}, {128 + 44, 0, 0, 0}, {-44, 0, 0, 0},
            {HIGH - 255 + 44, 1, 0, 0}, {HIGH - 65535 + 44, 1, 1, 0}};
        FootOnTheOtherPedal x = reader();
        for (int[] row : all) {
            for (int sort = 0; sort < 3; sort++) {
                x.sheet(0, sort, 1);
                DUE.is("26: it becomes", x.cell(0, 0, row[0]), 1);
                DUE.is("26: " + row[0] + " of sort " + sort, x.tells(0, 0, 0, 5), row[1 + sort] == 1 ? 44 : NONE);
            }
        }
    }

    private static void copyOfNoneAndAll() {
        FootOnTheOtherPedal x = reader();
        Due.row(x, 0, 1, 1, 2, 3);
        Due.row(x, 1, 1, 7, 8, 9, 10);
        for (int place = 0; place < 4; place++) {
            DUE.is("27: none from " + place, x.copy(0, place, 1, 0, 0), 0);
            DUE.is("27: none to " + place, x.copy(0, 0, 1, place, 0), 0);
        }
        DUE.is("27: none to the end", x.copy(0, 3, 1, 4, 0), 0);
        holds("27: none came", x, 1, 1, 7, 8, 9, 10);
        DUE.is("27: all", x.copy(0, 0, 1, 0, 3), 3);
        holds("27: all came", x, 1, 1, 1, 2, 3, 10);
        holds("27: and stay", x, 0, 1, 1, 2, 3);
        x.sheet(0, 1, 40);
        x.sheet(1, 1, 40);
        x.cell(0, 39, 5);
        DUE.is("27: 40", x.copy(0, 0, 1, 0, 40), 40);
        DUE.is("27: the 40th", x.tells(1, 0, 0, 0), 39);
        x.sheet(2, 1, 0);
        DUE.is("27: none of none", x.copy(2, 0, 2, 0, 0), 0);
        DUE.is("27: one of none", x.copy(2, 0, 1, 0, 1), -12);
        DUE.is("27: one to none", x.copy(1, 0, 2, 0, 1), -12);
    }

    private static void copyUpToTheEnd() {
        FootOnTheOtherPedal x = reader();
        Due.row(x, 0, 0, 1, 2, 3, 4, 5);
        Due.row(x, 1, 0, 11, 12, 13);
        int[][] all = {{3, 1, 2, 2}, {3, 1, 3, -12}, {3, 2, 2, -12}, {4, 2, 1, 1}, {5, 2, 1, -12}, {4, 3, 1, -12},
            {2, 0, 3, 3}, {2, 0, 4, -12}, {0, 0, 4, -12}, {5, 3, 0, 0}, {6, 3, 0, -12}, {5, 4, 0, -12}, {-1, 0, 1, -12},
            {0, -1, 1, -12}, {-1, 0, 0, -12}, {0, -1, 0, -12}, {0, 0, -1, -12}, {5, 3, -1, -12}, {1, 1, HIGH, -12},
            {HIGH, 0, 1, -12}, {0, HIGH, 1, -12}, {HIGH, HIGH, HIGH, -12}, {LOW, LOW, LOW, -12}};
        for (int[] row : all) {
            String call = "27: " + row[2] + " from " + row[0] + " to " + row[1];
            DUE.is(call, x.copy(0, row[0], 1, row[1], row[2]), row[3]);
        }
        holds("27: the last that came", x, 1, 0, 3, 4, 5);
    }

    private static void copyAsTheyWere() {
        int[] from = {1, 2, 3, 4, 5, 6};
        for (int i = 0; i < 6; i++) {
            for (int j = 0; j < 6; j++) {
                int n = 6 - Math.max(i, j);
                FootOnTheOtherPedal x = reader();
                Due.row(x, 0, 2, from);
                DUE.is("27: in itself", x.copy(0, i, 0, j, n), n);
                int[] due = from.clone();
                System.arraycopy(from, i, due, j, n);
                holds("27: " + n + " from " + i + " to " + j, x, 0, 2, due);
            }
        }
    }

    private static void copyAndItsOrder() {
        FootOnTheOtherPedal x = reader();
        Due.row(x, 0, 0, 1, 2);
        Due.row(x, 1, 1, 3, 4);
        DUE.is("27: BAD ahead of missing", x.copy(2, 0, 4, 0, 0), BAD);
        DUE.is("27: BAD ahead of missing", x.copy(-1, 0, 2, 0, 0), BAD);
        DUE.is("27: missing ahead of the sort", x.copy(0, 0, 2, 0, 0), -11);
        DUE.is("27: missing ahead of the place", x.copy(2, -1, 0, 5, -1), -11);
        DUE.is("27: the sort ahead of the place", x.copy(0, 5, 1, 5, -1), -13);
        DUE.is("27: the sort, though none are copied", x.copy(0, 0, 1, 0, 0), -13);
        holds("27: it stays", x, 1, 1, 3, 4);
    }

    private static void copyKeepsItems() {
        FootOnTheOtherPedal x = reader();
        Due.row(x, 0, 2, 65536 + 5, LOW, 5);
        x.sheet(1, 2, 3);
        x.copy(0, 0, 1, 0, 3);
        holds("27: whole ints", x, 1, 2, NONE, NONE, 5);
        Due.row(x, 0, 1, 300, 44);
        x.sheet(1, 1, 2);
        x.copy(0, 0, 1, 0, 2);
        holds("27: whole shorts", x, 1, 1, NONE, 44);
        x.cell(0, 1, 9);
        holds("27: what came stays as it was", x, 1, 1, NONE, 44);
    }

    private static void is(FootOnTheOtherPedal x, int learner, int kind, int number) {
        DUE.is("28: KIND of " + learner, x.told(learner, 5), kind);
        DUE.is("28: NUMBER of " + learner, x.told(learner, 2), number);
    }

    private static void learnersTwoByTwo() {
        FootOnTheOtherPedal x = new FootOnTheOtherPedal();
        Due.row(x, 2, 2, 9, 0, 9, 5, 0, 3, 4, 1, 1);
        DUE.is("28: from the second on", x.learners(2, 2, 1, 4), 4);
        is(x, 0, 0, 9);
        is(x, 1, 5, 0);
        is(x, 2, 3, 4);
        is(x, 3, 1, 1);
        DUE.is("28: the row had no more", x.count(0), 4);
    }

    private static void learnersOfNone() {
        FootOnTheOtherPedal x = new FootOnTheOtherPedal();
        x.sheet(0, 0, 4);
        int[] froms = {0, 3, 4, 5, 40, -1, LOW, HIGH};
        for (int from : froms) {
            DUE.is("28: none from " + from, x.learners(0, 0, from, 0), 0);
        }
        x.sheet(0, 0, 0);
        DUE.is("28: none of none", x.learners(0, 0, 0, 0), 0);
        DUE.is("28: one of none", x.learners(0, 0, 0, 1), -12);
        DUE.is("28: none came", x.count(0), 0);
    }

    private static void learnersAtTheEnd() {
        int[][] all = {{0, 2, 2, 2}, {2, 1, 1, 1}, {2, 2, -12, 1}, {3, 1, -12, 0}, {4, 1, -12, 0}, {0, 3, -12, 2}, {1, 1, 1, 1},
            {1, 2, -12, 1}, {-1, 1, -12, 0}, {-2, 2, -12, 0}, {HIGH, 1, -12, 0}, {HIGH - 1, 1, -12, 0},
            {HIGH - 3, 3, -12, 0}, {LOW, 5, -12, 0}, {39, 1, -12, 0}};
        for (int[] row : all) {
            FootOnTheOtherPedal x = new FootOnTheOtherPedal();
            Due.row(x, 0, 0, 1, 2, 3, 4);
            String call = "28: " + row[1] + " from " + row[0];
            DUE.is(call, x.learners(0, 0, row[0], row[1]), row[2]);
            DUE.is(call + ": what stood ahead came", x.count(0), row[3]);
        }
        FootOnTheOtherPedal full = new FootOnTheOtherPedal();
        full.sheet(0, 1, 40);
        DUE.is("28: the last two of 40", full.learners(0, 1, 38, 1), 1);
        DUE.is("28: the last of 40 alone", full.learners(0, 1, 39, 1), -12);
        DUE.is("28: one came", full.count(0), 1);
    }

    private static void learnersLeftOut() {
        int[][] all = {{6, 0, 0}, {-1, 0, 0}, {0, 10, 0}, {0, -1, 0}, {5, 9, 1}, {0, 0, 1}, {256, 0, 0}, {0, 256, 0}};
        for (int[] row : all) {
            FootOnTheOtherPedal x = new FootOnTheOtherPedal();
            Due.row(x, 0, 2, 1, 1, row[0], row[1], 2, 2);
            DUE.is("28: " + row[0] + ", " + row[1], x.learners(0, 2, 0, 3), 2 + row[2]);
            DUE.is("28: how many came", x.count(0), 2 + row[2]);
            is(x, 0, 1, 1);
            is(x, 1 + row[2], 2, 2);
        }
    }

    private static void learnersTillItIsFull() {
        for (int here = 0; here <= 5; here++) {
            FootOnTheOtherPedal x = new FootOnTheOtherPedal();
            for (int k = 0; k < here; k++) {
                x.learner(0, 0);
            }
            Due.row(x, 0, 0, 1, 1, 2, 2, 3, 3, 4, 4, 5, 5);
            DUE.is("28: five to " + here, x.learners(0, 0, 0, 5), 5 - here);
            DUE.is("28: five", x.count(0), 5);
            for (int k = here; k < 5; k++) {
                is(x, k, k - here + 1, k - here + 1);
            }
            DUE.is("28: others are left out", x.learners(0, 0, 0, 5), 0);
            DUE.is("28: a place outside is told though it is full", x.learners(0, 0, 2, 5), -12);
            DUE.is("28: six are too many", x.learners(0, 0, 0, 6), BAD);
        }
    }

    private static void learnersOfEachSort() {
        for (int sort = 0; sort < 3; sort++) {
            for (int as = 0; as < 3; as++) {
                FootOnTheOtherPedal x = new FootOnTheOtherPedal();
                Due.row(x, 0, sort, 4, 7);
                DUE.is("28: of sort " + sort + " for " + as, x.learners(0, as, 0, 1), sort == as ? 1 : -13);
                DUE.is("28: came", x.count(0), sort == as ? 1 : 0);
            }
            FootOnTheOtherPedal x = new FootOnTheOtherPedal();
            Due.row(x, 0, sort, 65536 + 4, 65536 + 7, 256 + 3, 256 + 6);
            int[] due = {2, 1, 0};
            DUE.is("28: by the lowest bits of sort " + sort, x.learners(0, sort, 0, 2), due[sort]);
        }
    }

    private static void takenByKind() {
        String[] under = {"0", "10", "20", "310", "420", "50"};
        for (int kind = 0; kind < 6; kind++) {
            FootOnTheOtherPedal x = new FootOnTheOtherPedal();
            x.learner(kind, 9 - kind);
            for (int k = 0; k < 6; k++) {
                boolean is = under[kind].indexOf('0' + k) >= 0;
                DUE.is("29: KIND " + kind + " for " + k, x.taken(0, k), is ? 9 - kind : -13);
            }
            x.set(2, 0, 0);
            DUE.is("29: NUMBER 0", x.taken(0, kind), 0);
            x.set(2, 0, 9);
            DUE.is("29: NUMBER 9", x.taken(0, 0), 9);
        }
    }

    private static void takenByOrder() {
        FootOnTheOtherPedal x = new FootOnTheOtherPedal();
        for (int one = 0; one < 5; one++) {
            DUE.is("29: no such LEARNER", x.taken(one, 5), -11);
            DUE.is("29: KIND ahead of that", x.taken(one, 6), BAD);
            DUE.is("29: KIND ahead of that", x.taken(one, -1), BAD);
            x.learner(0, one);
            DUE.is("29: of another KIND", x.taken(one, 5), -13);
            DUE.is("29: such a one", x.taken(one, 0), one);
            DUE.is("29: KIND ahead of all", x.taken(one, 6), BAD);
        }
        DUE.is("29: no such LEARNER", x.taken(5, 0), -11);
        DUE.is("29: no such LEARNER", x.taken(-1, 0), -11);
    }
}
