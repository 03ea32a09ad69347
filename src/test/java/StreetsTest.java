/** Promises 1 to 5: a new object, set, learner, told, asks. */
public final class StreetsTest {
    private static final int BAD = FootOnTheOtherPedal.BAD, FULL = FootOnTheOtherPedal.FULL;
    private static final int LOW = Integer.MIN_VALUE, HIGH = Integer.MAX_VALUE;
    private static final Due DUE = new Due();

    public static void main(String[] args) {
        aNewObject();
        setAndTold();
        setRefuses();
        learnerComes();
        toldOfStreets();
        toldRefuses();
        asksByKind();
        asksByBounds();
        asksByNames();
        asksRefuses();
        DUE.end();
    }

    private static void aNewObject() {
        FootOnTheOtherPedal x = new FootOnTheOtherPedal();
        int[] counts = {0, 0, 0, 0, 1, 0, 0};
        for (int what = 0; what < counts.length; what++) {
            DUE.is("1: count(" + what + ")", x.count(what), counts[what]);
        }
        DUE.is("1: DAY", x.told(HIGH, 0), 0);
        for (int street = 0; street < 8; street++) {
            DUE.is("1: HARD of " + street, x.told(street, 1), 30);
        }
        for (int sheet = 0; sheet < 4; sheet++) {
            DUE.is("1: sheet " + sheet + " is missing", x.cell(sheet, 0, 0), -11);
        }
        DUE.is("1: no learner", x.told(0, 2), BAD);
        DUE.is("1: no image", x.back(), FootOnTheOtherPedal.STATE);
    }

    private static void setAndTold() {
        FootOnTheOtherPedal x = new FootOnTheOtherPedal();
        x.learner(3, 4);
        x.learner(5, 6);
        DUE.is("2: day was", x.set(0, -7, 999), 0);
        DUE.is("2: day is", x.told(77, 0), 999);
        DUE.is("2: day back", x.set(0, HIGH, 0), 999);
        for (int street = 0; street < 8; street++) {
            DUE.is("2: hard was", x.set(1, street, 90 + street), 30);
        }
        for (int street = 0; street < 8; street++) {
            DUE.is("2: hard is", x.told(street, 1), 90 + street);
        }
        DUE.is("2: number was", x.set(2, 1, 9), 6);
        DUE.is("2: number is", x.told(1, 2), 9);
        DUE.is("2: done was", x.set(3, 1, 99), 0);
        DUE.is("2: done is", x.told(1, 3), 99);
        DUE.is("2: bumps was", x.set(4, 1, 999), 0);
        DUE.is("2: bumps is", x.told(1, 4), 999);
        for (int street = 0; street < 8; street++) {
            DUE.is("2: skill was", x.set(10 + street, 1, 99 - street), 0);
        }
        for (int street = 0; street < 8; street++) {
            DUE.is("2: skill is", x.told(1, 10 + street), 99 - street);
            DUE.is("2: the other's stays", x.told(0, 10 + street), 0);
        }
        DUE.is("2: the other's number", x.told(0, 2), 4);
        DUE.is("4: kind", x.told(0, 5), 3);
        DUE.is("4: kind", x.told(1, 5), 5);
    }

    private static void setRefuses() {
        FootOnTheOtherPedal x = new FootOnTheOtherPedal();
        x.learner(0, 0);
        int[][] bad = {{0, 0, -1}, {0, 0, 1000}, {0, 0, LOW}, {1, -1, 0}, {1, 8, 0}, {1, 0, -1}, {1, 0, 100},
            {2, -1, 0}, {2, 1, 0}, {2, 0, -1}, {2, 0, 10}, {3, 1, 0}, {3, 0, -1}, {3, 0, 100}, {4, 1, 0},
            {4, 0, -1}, {4, 0, 1000}, {5, 0, 0}, {5, 0, -1}, {6, 0, 0}, {7, 0, 0}, {8, 0, 0}, {9, 0, 0}, {10, 1, 0},
            {10, -1, 0}, {10, 0, -1}, {17, 0, 100}, {18, 0, 0}, {20, 0, 0}, {-1, 0, 0}, {LOW, 0, 0}, {HIGH, 0, 0},
            {1, HIGH, 0}, {2, LOW, 0}};
        for (int[] call : bad) {
            DUE.is("2: set" + java.util.Arrays.toString(call), x.set(call[0], call[1], call[2]), BAD);
        }
        DUE.is("2: refused: day", x.told(0, 0), 0);
        DUE.is("2: refused: hard", x.told(0, 1), 30);
        int[] whats = {2, 3, 4, 5, 10, 17};
        for (int what : whats) {
            DUE.is("2: refused: " + what, x.told(0, what), 0);
        }
    }

    private static void learnerComes() {
        FootOnTheOtherPedal x = new FootOnTheOtherPedal();
        DUE.is("3: kind 6", x.learner(6, 0), BAD);
        DUE.is("3: kind -1", x.learner(-1, 0), BAD);
        DUE.is("3: number 10", x.learner(0, 10), BAD);
        DUE.is("3: number -1", x.learner(0, -1), BAD);
        DUE.is("3: none came", x.count(0), 0);
        for (int k = 0; k < 5; k++) {
            DUE.is("3: learner " + k, x.learner(5 - k, 9 - k), k);
        }
        DUE.is("3: a sixth", x.learner(0, 0), FULL);
        DUE.is("3: BAD ahead of FULL", x.learner(6, 0), BAD);
        for (int k = 0; k < 5; k++) {
            int[] fresh = {9 - k, 0, 0, 5 - k};
            for (int what = 2; what < 6; what++) {
                DUE.is("3: what " + what + " of " + k, x.told(k, what), fresh[what - 2]);
            }
            for (int what = 10; what < 18; what++) {
                DUE.is("3: skill", x.told(k, what), 0);
            }
        }
        FootOnTheOtherPedal y = new FootOnTheOtherPedal();
        y.image();
        y.learner(1, 1);
        y.set(10, 0, 9);
        y.set(17, 0, 9);
        y.set(3, 0, 9);
        y.set(4, 0, 9);
        y.back();
        DUE.is("3: in the place of one that went", y.learner(2, 3), 0);
        int[] whats = {3, 4, 10, 17};
        for (int what : whats) {
            DUE.is("3: all 0 as one comes: " + what, y.told(0, what), 0);
        }
        DUE.is("3: its own kind", y.told(0, 5), 2);
    }

    private static void toldOfStreets() {
        FootOnTheOtherPedal x = new FootOnTheOtherPedal();
        x.learner(0, 0);
        for (int street = 0; street < 8; street++) {
            x.set(1, street, 40);
            x.set(10 + street, 0, 35);
        }
        DUE.is("4: ready at the edge", x.told(0, 6), 1);
        DUE.is("4: all managed", x.told(0, 7), 8);
        x.set(10, 0, 34);
        x.set(17, 0, 34);
        DUE.is("4: not ready", x.told(0, 6), 0);
        DUE.is("4: six managed", x.told(0, 7), 6);
        for (int street = 0; street < 8; street++) {
            DUE.is("4: street " + street, x.told(0, 20 + street), street == 0 || street == 7 ? 0 : 1);
        }
    }

    private static void toldRefuses() {
        FootOnTheOtherPedal x = new FootOnTheOtherPedal();
        x.learner(0, 0);
        int[] whats = {-1, 8, 9, 18, 19, 28, LOW, HIGH, -10, -20};
        for (int what : whats) {
            DUE.is("4: what " + what, x.told(0, what), BAD);
        }
        int[] known = {2, 3, 4, 5, 6, 7, 10, 17, 20, 27};
        for (int what : known) {
            DUE.is("4: no such learner", x.told(1, what), BAD);
            DUE.is("4: no such learner", x.told(-1, what), BAD);
        }
        DUE.is("4: no such street", x.told(8, 1), BAD);
        DUE.is("4: no such street", x.told(-1, 1), BAD);
    }

    private static void asksByKind() {
        FootOnTheOtherPedal x = Due.ruled("teaches 7; fades 3; nerves -7;");
        int[] numbers = {4, 4, 4, 4, 4};
        int[][] due = {{7, 7, 7, 3, -7}, {14, 7, 7, 3, -2}, {3, 7, 7, 4, -12}, {14, 7, 0, 6, 2}, {3, 11, 7, 4, -12}};
        for (int kind = 0; kind < 5; kind++) {
            x.learner(kind, numbers[kind]);
            for (int what = 0; what < 5; what++) {
                DUE.is("5: kind " + kind + " what " + what, x.asks(kind, 7, what), due[kind][what]);
            }
        }
        x.set(3, 4, 1);
        DUE.is("5: HELD with 1 done", x.asks(4, 0, 4), -12);
        x.set(3, 4, 2);
        DUE.is("5: HELD with 2 done", x.asks(4, 0, 4), 0);
        FootOnTheOtherPedal y = Due.ruled("teaches 7; fades 3; nerves -7;");
        y.learner(5, 4);
        int[] old = {3, 3, 3, 7, -3};
        for (int what = 0; what < 5; what++) {
            DUE.is("5: OLD what " + what, y.asks(0, 0, what), old[what]);
        }
        FootOnTheOtherPedal z = Due.ruled("teaches 2; fades 0; nerves 7;");
        z.learner(5, 0);
        DUE.is("5: OLD below 3", z.asks(0, 0, 0), 2);
        DUE.is("5: OLD nerve", z.asks(0, 0, 4), 3);
    }

    private static void asksByBounds() {
        FootOnTheOtherPedal x = Due.ruled("teaches 150; fades 150; nerves 150;");
        int[][] high = {{99, 99, 99, 99, 99}, {99, 99, 99, 99, 104}, {49, 99, 99, 99, 94}, {99, 99, 0, 99, 113},
            {49, 99, 99, 99, 94}};
        int[][] low = {{0, 0, 0, 0, -99}, {0, 0, 0, 0, -94}, {0, 0, 0, 1, -104}, {0, 0, 0, 0, -85},
            {0, 9, 0, 1, -104}};
        for (int kind = 0; kind < 5; kind++) {
            x.learner(kind, 9);
            for (int what = 0; what < 5; what++) {
                DUE.is("5: high kind " + kind + " what " + what, x.asks(kind, 0, what), high[kind][what]);
            }
        }
        x.force(Due.text(x, "teaches -5; fades -5; nerves -150;"));
        for (int kind = 0; kind < 5; kind++) {
            for (int what = 0; what < 5; what++) {
                DUE.is("5: low kind " + kind + " what " + what, x.asks(kind, 0, what), low[kind][what]);
            }
        }
        FootOnTheOtherPedal y = Due.ruled("teaches -5; fades 95; nerves -150;");
        y.learner(5, 9);
        DUE.is("5: OLD learns", y.asks(0, 0, 0), 0);
        DUE.is("5: OLD forgets", y.asks(0, 0, 3), 99);
        DUE.is("5: OLD nerve", y.asks(0, 0, 4), -49);
    }

    private static void asksByNames() {
        String[] names = {"skill", "hard", "help", "number", "day", "done"};
        int[] values = {11, 22, 0, 3, 44, 55};
        for (int k = 0; k < names.length; k++) {
            FootOnTheOtherPedal x = Due.ruled("teaches " + names[k] + "; fades " + names[k] + "; nerves " + names[k] + ";");
            x.learner(0, 8);
            x.learner(0, 3);
            x.set(12, 1, 11);
            x.set(1, 2, 22);
            x.set(0, 0, 44);
            x.set(3, 1, 55);
            for (int what = 0; what < 5; what++) {
                boolean helped = names[k].equals("help") && what < 3;
                DUE.is("5: " + names[k] + " what " + what, x.asks(1, 2, what), helped ? what : values[k]);
            }
        }
    }

    private static void asksRefuses() {
        FootOnTheOtherPedal x = new FootOnTheOtherPedal();
        x.learner(0, 0);
        int[][] bad = {{1, 0, 0}, {-1, 0, 0}, {0, 8, 0}, {0, -1, 0}, {0, 0, 5}, {0, 0, -1}, {LOW, 0, 0}, {0, HIGH, 0}};
        for (int[] call : bad) {
            DUE.is("5: asks" + java.util.Arrays.toString(call), x.asks(call[0], call[1], call[2]), -1000);
        }
    }
}
