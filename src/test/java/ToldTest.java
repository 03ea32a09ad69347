/** Promises 18 to 24: tells, film, drawn, chance, image, back, count. */
public final class ToldTest {
    private static final int BAD = FootOnTheOtherPedal.BAD, NONE = FootOnTheOtherPedal.NONE;
    private static final int STATE = FootOnTheOtherPedal.STATE;
    private static final long NO = FootOnTheOtherPedal.NO;
    private static final Due DUE = new Due();

    public static void main(String[] args) {
        tellsOfOne();
        tellsOfKinds();
        tellsOfHard();
        tellsOfTexts();
        tellsOfNothing();
        tellsRefuses();
        films();
        filmRefuses();
        draws();
        chances();
        images();
        imageKeeps();
        counts();
        DUE.end();
    }

    private static void tells(FootOnTheOtherPedal x, int one, int streetHelp, int... due) {
        for (int what = 0; what < due.length; what++) {
            DUE.is("18: tells of " + one + ", " + streetHelp + ": what " + what,
                x.tells(1, one, streetHelp, what), due[what]);
        }
    }

    private static void tellsOfOne() {
        FootOnTheOtherPedal x = new FootOnTheOtherPedal();
        x.learner(0, 4);
        // Without help 8, 7, 6, .. are learnt, a word: 9, 8, ..; half of it till 25 is there.
        Due.row(x, 1, 2, 4, 7, 10);
        tells(x, 0, 0, NONE, 1, 1023, 1, 1, 0, 87, 13, 1);
        x.cell(1, 2, 11);
        tells(x, 0, 0, 2, 0, 0, 0, 0, NONE, 0, NONE, 0);
        x.cell(1, 0, 5);
        tells(x, 0, 0, 0);
        x.set(13, 0, 20);
        Due.row(x, 1, 0, 24, 28, 35);
        tells(x, 0, 31, NONE, 1, 1023, 2);
        Due.row(x, 1, 0, 28, 35, 41);
        tells(x, 0, 30, 0, 0, 0, 0, 1, 24, 26, 0, 0);
    }

    private static void tellsOfKinds() {
        FootOnTheOtherPedal x = new FootOnTheOtherPedal();
        x.learner(4, 3);
        x.learner(2, 3);
        x.learner(3, 2);
        Due.row(x, 1, 1, 6);
        tells(x, 0, 1, NONE, 1 << 4, 8 + 16, 2);
        tells(x, 1, 1, 0, 1 << 4, 0, 0);
        Due.row(x, 1, 1, 4);
        tells(x, 1, 1, NONE, 1 + 2 + 4 + 8, 1023, 2);
        Due.row(x, 1, 1, 16);
        x.set(1, 0, 12);
        tells(x, 2, 0, NONE, 8, 1023 - 1 - 2);
        x.set(1, 0, 10);
        tells(x, 2, 0, NONE, 2 + 8, 1023);
    }

    private static void tellsOfHard() {
        FootOnTheOtherPedal x = Due.ruled("teaches 10; fades 0; nerves 0;");
        x.learner(0, 0);
        x.set(10, 0, 20);
        Due.row(x, 1, 0, 25, 30, 40);
        tells(x, 0, 0, NONE, 1, 1023, 1 + 2, 1, 20, 5, 26, 2);
        Due.row(x, 1, 0, 99);
        tells(x, 0, 0, 0, 0, 0, 0, 11, 89, 0, NONE, 0);
        tells(x, 0, 2, 0, 0, 0, 0, 11, 89);
        Due.row(x, 1, 0, 60);
        tells(x, 0, 0, 0, 0, 0, 0, 1, 50, 0, NONE, 0);
        x.set(1, 0, 60);
        tells(x, 0, 0, 0, 0, 0, 0, 1, 55, 0, NONE, 0);
    }

    private static void tellsOfTexts() {
        FootOnTheOtherPedal x = new FootOnTheOtherPedal();
        x.learner(0, 0);
        Due.text(x, "teaches 10; fades 1; nerves 5;");
        Due.text(x, "teaches 10 - done; fades 1; nerves 5;");
        Due.text(x, "teaches 4; fades 0; nerves 30;");
        x.force(1);
        Due.row(x, 1, 0, 10);
        tells(x, 0, 2, NONE, 1 + 2 + 4 + 16, 1023, 4, 1, 0, 100, 0, 1 + 2 + 4);
        Due.row(x, 1, 0, 10, 19);
        tells(x, 0, 2, 1, 0, 0, 0, 0, NONE, 0, NONE, 1 + 4);
        Due.row(x, 1, 0, 4);
        tells(x, 0, 0, 0, 0, 0, 0, 0, NONE, 0, NONE, 1 + 8);
        DUE.is("18: the rule stays", x.count(6), 1);
    }

    private static void tellsOfNothing() {
        FootOnTheOtherPedal x = new FootOnTheOtherPedal();
        x.learner(0, 0);
        Due.text(x, "teaches 10; fades 1; nerves 5;");
        Due.row(x, 1, 1);
        tells(x, 0, 72, NONE, 63, 1023, 7, 100, 0, 100, 0, 3);
        DUE.is("18: skill stays", x.told(0, 17), 0);
        DUE.is("18: hard stays", x.told(7, 1), 30);
        DUE.is("18: done stays", x.told(0, 3), 0);
    }

    private static void tellsRefuses() {
        FootOnTheOtherPedal x = new FootOnTheOtherPedal();
        x.learner(0, 0);
        int[][] bad = {{-1, 0, 0, 0}, {4, 0, 0, 0}, {0, 1, 0, 0}, {0, -1, 0, 0}, {0, 0, -1, 0}, {0, 0, 3, 0},
            {0, 0, 9, 0}, {0, 0, 79, 0}, {0, 0, 80, 0}, {0, 0, -10, 0}, {0, 0, 0, -1}, {0, 0, 0, 9},
            {0, 0, Integer.MIN_VALUE, 0}, {0, 0, Integer.MAX_VALUE, 0}};
        for (int[] c : bad) {
            DUE.is("18: tells" + java.util.Arrays.toString(c), x.tells(c[0], c[1], c[2], c[3]), BAD);
        }
        for (int what = 0; what < 9; what++) {
            DUE.is("18: missing", x.tells(3, 0, 72, what), -11);
        }
    }

    private static void films() {
        FootOnTheOtherPedal x = new FootOnTheOtherPedal();
        x.learner(0, 0);
        x.set(17, 0, 15);
        DUE.is("19: film", x.film(1, 0, 70, 6), 6);
        // 15: half of 8, 7, 6 till 25, then whole 5, 4, 3.
        int[] due = {19, 22, 25, 30, 34, 37};
        for (int k = 0; k < 6; k++) {
            Due.row(x, 2, 0, java.util.Arrays.copyOf(due, k + 1));
            DUE.is("19: item " + k, x.tells(2, 0, 70, 0), NONE);
        }
        DUE.is("19: as told", x.tells(1, 0, 70, 0), NONE);
        DUE.is("19: of bytes", x.learners(1, 0, 0, 0), 0);
        DUE.is("19: six of them", x.cell(1, 6, 0), -12);
        DUE.is("19: six of them", x.cell(1, 5, 37), 1);
        DUE.is("19: skill stays", x.told(0, 17), 15);
        DUE.is("19: bumps stay", x.told(0, 4), 0);
        DUE.is("19: done stays", x.told(0, 3), 0);
        Due.row(x, 1, 2, 7, 7);
        DUE.is("19: none", x.film(1, 0, 70, 0), 0);
        DUE.is("19: not missing", x.cell(1, 0, 0), -12);
        DUE.is("19: of bytes", x.learners(1, 0, 0, 0), 0);
        DUE.is("19: the most", x.film(1, 0, 2, 40), 40);
        DUE.is("19: the most", x.cell(1, 39, 0), 1);
        DUE.is("19: the first was 10", x.tells(1, 0, 2, 0), 39);
        x.film(0, 0, 2, 2);
        Due.row(x, 3, 0, 10, 19);
        x.copy(0, 0, 3, 0, 2);
        DUE.is("19: 10, 19", x.tells(3, 0, 2, 0), NONE);
    }

    private static void filmRefuses() {
        FootOnTheOtherPedal x = new FootOnTheOtherPedal();
        x.learner(0, 0);
        int[][] bad = {{-1, 0, 0, 0}, {4, 0, 0, 0}, {0, 1, 0, 0}, {0, -1, 0, 0}, {0, 0, -1, 0}, {0, 0, 13, 0},
            {0, 0, 80, 0}, {0, 0, 0, -1}, {0, 0, 0, 41}};
        for (int[] c : bad) {
            DUE.is("19: film" + java.util.Arrays.toString(c), x.film(c[0], c[1], c[2], c[3]), BAD);
        }
        DUE.is("19: refused: still missing", x.cell(0, 0, 0), -11);
    }

    private static void draws() {
        FootOnTheOtherPedal x = new FootOnTheOtherPedal();
        x.learner(0, 0);
        x.learner(0, 0);
        for (int street = 0; street < 8; street++) {
            x.set(10 + street, 0, 10 + 10 * street);
        }
        int[][] due = {{0, 3}, {1, 4}, {7, 1}, {12345, 4}, {-1, 2}, {Integer.MAX_VALUE, 2}, {Integer.MIN_VALUE, 2}};
        for (int[] row : due) {
            DUE.is("20: drawn by " + row[0], x.drawn(row[0], 0), row[1]);
            DUE.is("20: without skill", x.drawn(row[0], 1), 0);
        }
        // Seed 1 draws STREETS 7, 0, 2, 5, 7 and then 18, 75, 23, 34, 14.
        x.set(17, 1, 14);
        DUE.is("20: 14 isn't less than 14", x.drawn(1, 1), 0);
        x.set(17, 1, 15);
        DUE.is("20: the fifth", x.drawn(1, 1), 1);
        x.set(17, 1, 19);
        DUE.is("20: the first, too", x.drawn(1, 1), 2);
        DUE.is("20: no such learner", x.drawn(0, 2), BAD);
        DUE.is("20: no such learner", x.drawn(0, -1), BAD);
    }

    private static void chances() {
        FootOnTheOtherPedal x = new FootOnTheOtherPedal();
        x.learner(0, 0);
        x.learner(0, 0);
        for (int street = 0; street < 8; street++) {
            x.set(10 + street, 0, 90);
            x.set(10 + street, 1, 99);
        }
        int[][] due = {{0, 1, 0, 1, 1}, {0, 12, 0, 7, 12}, {0, 20, 0, 3, 5}, {0, 12, 1, 11, 12}, {0, 20, 1, 19, 20},
            {2147483640, 1, 0, 0, 1}, {2147483640, 12, 0, 1, 2}, {2147483640, 20, 0, 1, 2},
            {2147483640, 20, 1, 1, 1}};
        for (int[] row : due) {
            String call = "21: " + row[1] + " from " + row[0] + " of " + row[2];
            DUE.is(call, x.chance(row[0], row[1], row[2], 0), row[3]);
            DUE.is(call, x.chance(row[0], row[1], row[2], 1), row[4]);
        }
        int[][] bad = {{0, 0, 0}, {21, 0, 0}, {-1, 0, 0}, {1, 2, 0}, {1, -1, 0}, {1, 0, 2}, {1, 0, -1}};
        for (int[] c : bad) {
            DUE.is("21: chance" + java.util.Arrays.toString(c), x.chance(0, c[0], c[1], c[2]), NO);
        }
    }

    private static void images() {
        FootOnTheOtherPedal x = new FootOnTheOtherPedal();
        DUE.is("23: none yet", x.back(), STATE);
        DUE.is("22: of none", x.image(), 0);
        x.learner(0, 1);
        x.learner(1, 2);
        DUE.is("23: both go", x.back(), 0);
        DUE.is("23: gone", x.count(0), 0);
        DUE.is("23: gone", x.told(0, 2), BAD);
        x.learner(4, 5);
        DUE.is("22: of one", x.image(), 1);
        x.learner(2, 2);
        x.learner(2, 3);
        DUE.is("23: of one", x.back(), 1);
        DUE.is("23: the kind", x.told(0, 5), 4);
        DUE.is("23: once more", x.back(), 1);
        DUE.is("3: behind it", x.learner(5, 5), 1);
    }

    private static void imageKeeps() {
        FootOnTheOtherPedal x = new FootOnTheOtherPedal();
        x.learner(1, 1);
        x.learner(2, 2);
        Due.text(x, "teaches 50; fades 1; nerves 5;");
        x.image();
        x.set(0, 0, 9);
        x.force(1);
        for (int street = 0; street < 8; street++) {
            x.set(1, street, street);
            x.set(10 + street, 1, 60);
        }
        x.set(2, 1, 8);
        x.set(3, 1, 7);
        x.set(4, 1, 6);
        Due.row(x, 0, 0, 1, 2);
        x.feed('a');
        Due.feed(x, "b");
        x.back();
        int[] due = {0, 30, 2, 0, 0, 2};
        for (int what = 0; what < due.length; what++) {
            DUE.is("23: what " + what, x.told(1, what), due[what]);
        }
        for (int street = 0; street < 8; street++) {
            DUE.is("23: hard", x.told(street, 1), 30);
            DUE.is("23: skill", x.told(1, 10 + street), 0);
        }
        DUE.is("23: the rule", x.count(6), 0);
        DUE.is("23: by the rule", x.asks(0, 0, 2), 10);
        DUE.is("23: texts stay", x.count(4), 2);
        DUE.is("23: the tape stays", x.count(5), 2);
        DUE.is("23: sheets stay", x.cell(0, 1, 0), 1);
        x.force(1);
        x.set(4, 0, 3);
        x.image();
        x.force(0);
        x.set(4, 0, 4);
        x.drive(0, 0, 0);
        x.back();
        DUE.is("22: the last image", x.told(0, 4), 3);
        DUE.is("22: the last image", x.count(6), 1);
        DUE.is("22: the last image", x.told(0, 10), 0);
        x.drive(0, 0, 0);
        x.back();
        DUE.is("22: it stays as it was", x.told(0, 10), 0);
    }

    private static void counts() {
        FootOnTheOtherPedal x = new FootOnTheOtherPedal();
        x.learner(0, 0);
        x.learner(1, 0);
        x.learner(2, 0);
        for (int street = 0; street < 8; street++) {
            x.set(1, street, 7);
        }
        x.set(0, 0, 77);
        x.set(4, 0, 999);
        x.set(4, 2, 998);
        Due.text(x, "teaches 50; fades 1; nerves 5;");
        x.force(1);
        Due.feed(x, "abc");
        int[] due = {3, 77, 1, 1997, 2, 3, 1};
        for (int what = 0; what < due.length; what++) {
            DUE.is("24: count(" + what + ")", x.count(what), due[what]);
        }
        int[] bad = {-1, 7, Integer.MIN_VALUE, Integer.MAX_VALUE};
        for (int what : bad) {
            DUE.is("24: count(" + what + ")", x.count(what), BAD);
        }
    }
}
