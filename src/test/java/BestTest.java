/** Promises 11 to 17: best, hours, takes, late, gap, faded, test. */
public final class BestTest {
    private static final int BAD = FootOnTheOtherPedal.BAD, NONE = FootOnTheOtherPedal.NONE;
    private static final long NO = FootOnTheOtherPedal.NO;
    private static final int LOW = Integer.MIN_VALUE, HIGH = Integer.MAX_VALUE;
    private static final Due DUE = new Due();

    public static void main(String[] args) {
        best();
        hours();
        hoursOfLikeOnes();
        hoursAtMostBumps();
        takes();
        takesAtEdges();
        late();
        gap();
        faded();
        test();
        nothingIsTrue();
        refuses();
        DUE.end();
    }

    private static void hards(FootOnTheOtherPedal x, int... hards) {
        for (int street = 0; street < hards.length; street++) {
            x.set(1, street, hards[street]);
        }
    }

    private static void skills(FootOnTheOtherPedal x, int one, int... skills) {
        for (int street = 0; street < skills.length; street++) {
            x.set(10 + street, one, skills[street]);
        }
    }

    private static void best() {
        FootOnTheOtherPedal x = new FootOnTheOtherPedal();
        x.learner(0, 0);
        x.learner(3, 0);
        x.learner(1, 0);
        DUE.is("11: a foot in the first", x.best(0, 0), 2);
        DUE.is("11: together", x.best(0, 1), 10);
        skills(x, 0, 95, 90, 20, 20, 20, 20, 20, 20);
        DUE.is("11: 0 and 1 have no room for 10", x.best(0, 0), 22);
        DUE.is("11: together", x.best(0, 1), 315);
        skills(x, 1, 0, 0, 0, 0, 0, 25, 0, 0);
        DUE.is("11: RACER alone where it is managed", x.best(1, 0), 50);
        DUE.is("11: together", x.best(1, 1), 41);
        skills(x, 2, 0, 0, 0, 0, 0, 0, 0, 88);
        DUE.is("11: BOLD: room for 11 of 16", x.best(2, 0), 70);
        DUE.is("11: together", x.best(2, 1), 99);
        FootOnTheOtherPedal y = Due.ruled("teaches 0; fades 0; nerves 0;");
        y.learner(0, 0);
        DUE.is("11: of like ones the first", y.best(0, 0), 0);
        DUE.is("11: nothing", y.best(0, 1), 0);
        skills(y, 0, 99, 99, 99, 99, 99, 99, 99, 99);
        DUE.is("11: all is known", y.best(0, 0), 0);
        DUE.is("11: all", y.best(0, 1), 792);
        FootOnTheOtherPedal z = Due.ruled("teaches (help = 1) * 5 + (help = 2) * 2; fades 0; nerves 99;");
        z.learner(0, 0);
        DUE.is("11: a word", z.best(0, 0), 1);
        FootOnTheOtherPedal u = Due.ruled("teaches hard; fades 0; nerves 99;");
        u.learner(0, 0);
        hards(u, 1, 2, 3, 9, 8, 9, 0, 4);
        DUE.is("11: the first of 9", u.best(0, 0), 30);
    }

    private static void hours() {
        FootOnTheOtherPedal x = new FootOnTheOtherPedal();
        x.learner(0, 0);
        hards(x, 99, 99, 99, 99, 99, 99, 99, 32);
        DUE.is("12: three in the last", x.hours(0, 3, 2, 0), 888);
        DUE.is("12: managed", x.hours(0, 3, 2, 1), 1);
        DUE.is("12: no bumps by a foot", x.hours(0, 3, 2, 2), 0);
        DUE.is("12: two don't do", x.hours(0, 2, 2, 0), 11);
        DUE.is("12: managed", x.hours(0, 2, 2, 1), 0);
        DUE.is("12: by words it is none", x.hours(0, 3, 1, 0), 111);
        DUE.is("12: bumps by the row", x.hours(0, 3, 1, 2), 3);
        hards(x, 99, 14, 99, 13, 99, 99, 12, 99);
        DUE.is("12: three at once", x.hours(0, 3, 2, 0), 247);
        DUE.is("12: managed", x.hours(0, 3, 2, 1), 3);
        x.set(1, 1, 15);
        x.set(1, 3, 14);
        x.set(1, 6, 13);
        DUE.is("12: each in its hour", x.hours(0, 3, 2, 0), 247);
        x.set(1, 1, 13);
        x.set(1, 6, 15);
        DUE.is("12: the hard one first", x.hours(0, 3, 2, 0), 742);
        DUE.is("12: one hour", x.hours(0, 1, 2, 0), 2);
        DUE.is("12: no hour", x.hours(0, 0, 2, 0), 0);
        DUE.is("12: no hour: managed", x.hours(0, 0, 2, 1), 0);
        x.set(1, 0, 5);
        DUE.is("12: no hour: managed", x.hours(0, 0, 2, 1), 1);
        DUE.is("12: no hour: bumps", x.hours(0, 0, 0, 2), 0);
    }

    private static void hoursOfLikeOnes() {
        FootOnTheOtherPedal x = Due.ruled("teaches 6; fades 0; nerves 10 * (done < 2);");
        x.learner(0, 0);
        DUE.is("12: none", x.hours(0, 2, 0, 0), 11);
        hards(x, 0, 30, 30, 30, 30, 30, 16, 30);
        skills(x, 0, 0, 0, 0, 0, 0, 0, 10, 0);
        DUE.is("12: one hour loses none", x.hours(0, 1, 0, 0), 1);
        DUE.is("12: managed", x.hours(0, 1, 0, 1), 2);
        DUE.is("12: two do, but the nerve goes", x.hours(0, 2, 0, 0), 17);
        DUE.is("12: managed", x.hours(0, 2, 0, 1), 2);
        DUE.is("12: bumps by that row", x.hours(0, 2, 0, 2), 0);
        FootOnTheOtherPedal y = new FootOnTheOtherPedal();
        y.learner(0, 0);
        hards(y, 5, 5, 5, 5, 5, 5, 5, 5);
        DUE.is("12: the first of all", y.hours(0, 3, 0, 0), 111);
        DUE.is("12: all", y.hours(0, 3, 0, 1), 8);
    }

    private static void hoursAtMostBumps() {
        FootOnTheOtherPedal x = new FootOnTheOtherPedal();
        x.learner(0, 0);
        x.set(4, 0, 997);
        DUE.is("12: two more have room", x.hours(0, 3, 0, 2), 2);
        x.set(4, 0, 999);
        DUE.is("12: none more has", x.hours(0, 3, 0, 2), 0);
    }

    private static void takes() {
        FootOnTheOtherPedal x = Due.ruled("teaches 8 - done + help; fades 0; nerves 5;");
        x.learner(0, 0);
        hards(x, 20, 5, 5, 5, 5, 5, 5, 5);
        DUE.is("13: an hour a day", x.takes(0, 2, 1), 9);
        hards(x, 15, 15, 15, 15, 15, 15, 15, 15);
        DUE.is("13: street by street", x.takes(0, 2, 1), 8);
        DUE.is("13: two hours: 10 and 9", x.takes(0, 2, 2), 6);
        x.set(3, 0, 10);
        DUE.is("13: done from now on", x.takes(0, 2, 1), 9);
        hards(x, 5, 5, 5, 5, 5, 5, 5, 5);
        DUE.is("13: now", x.takes(0, 0, 1), 0);
        FootOnTheOtherPedal y = new FootOnTheOtherPedal();
        y.learner(0, 0);
        hards(y, 13, 5, 5, 5, 5, 5, 5, 5);
        DUE.is("13: behind the hours, ahead of the night", y.takes(0, 2, 1), 1);
        hards(y, 5, 5, 5, 5, 5, 5, 5, 8);
        skills(y, 0, 4, 4, 4, 4, 4, 4, 4, 2);
        DUE.is("13: the least first", y.takes(0, 2, 1), 1);
        FootOnTheOtherPedal z = Due.ruled("teaches 8; fades 0; nerves day * 3;");
        z.learner(0, 0);
        z.set(0, 0, 5);
        DUE.is("13: by the days that pass", z.takes(0, 2, 1), 6);
    }

    private static void takesAtEdges() {
        FootOnTheOtherPedal x = Due.ruled("teaches 1; fades 0; nerves 0;");
        x.learner(0, 0);
        hards(x, 40, 0, 0, 0, 0, 0, 0, 0);
        DUE.is("13: 40 days", x.takes(0, 2, 8), 40);
        x.set(1, 0, 41);
        DUE.is("13: more than 40", x.takes(0, 2, 8), NONE);
        x.set(1, 0, 45);
        DUE.is("13: nine hours a day", x.takes(0, 2, 9), 40);
    }

    private static void late() {
        FootOnTheOtherPedal x = Due.ruled("teaches 2; fades 9; nerves 0;");
        x.learner(0, 0);
        hards(x, 30, 31, 0, 1, 99, 99, 99, 17);
        DUE.is("14: 30", x.late(0, 0), 30);
        DUE.is("14: more than 30", x.late(0, 1), NONE);
        DUE.is("14: now", x.late(0, 2), 0);
        DUE.is("14: one", x.late(0, 3), 1);
        DUE.is("14: 17", x.late(0, 7), 17);
        skills(x, 0, 0, 1, 0, 0, 0, 0, 0, 9);
        DUE.is("14: from skill on", x.late(0, 1), 30);
        DUE.is("14: from skill on", x.late(0, 7), 8);
        x.set(4, 0, 999);
        DUE.is("14: whatever the bumps", x.late(0, 7), 8);
        FootOnTheOtherPedal y = new FootOnTheOtherPedal();
        y.learner(0, 0);
        hards(y, 9, 18, 21);
        DUE.is("14: 4", y.late(0, 0), 1);
        DUE.is("14: 4, 3, 3, 2, 2: 14 of 13", y.late(0, 1), 5);
        DUE.is("14: 16 of 16", y.late(0, 2), 7);
        y.set(1, 2, 22);
        DUE.is("14: no more is learnt", y.late(0, 2), NONE);
    }

    private static void gap() {
        FootOnTheOtherPedal x = new FootOnTheOtherPedal();
        x.learner(0, 0);
        DUE.is("15: the first of like ones", x.gap(0, 0), 0);
        DUE.is("15: by 25", x.gap(0, 1), -25);
        hards(x, 30, 41, 30, 52, 30, 30, 30, 41);
        skills(x, 0, 0, 11, 0, 21, 0, 0, 0, 9);
        DUE.is("15: the last", x.gap(0, 0), 7);
        DUE.is("15: by 27", x.gap(0, 1), -27);
        x.set(1, 3, 53);
        DUE.is("15: the first of two", x.gap(0, 0), 3);
        hards(x, 0, 0, 0, 0, 0, 0, 0, 0);
        skills(x, 0, 9, 9, 8, 9, 9, 9, 9, 9);
        DUE.is("15: though all are managed", x.gap(0, 0), 2);
        DUE.is("15: by 13 more", x.gap(0, 1), 13);
        FootOnTheOtherPedal y = Due.ruled("teaches 0; fades 0; nerves 0 - (hard = 7) * 50;");
        y.learner(0, 0);
        y.set(1, 5, 7);
        DUE.is("15: by nerve", y.gap(0, 0), 5);
        DUE.is("15: by nerve", y.gap(0, 1), -57);
    }

    private static void faded() {
        FootOnTheOtherPedal x = Due.ruled("teaches 0; fades 1; nerves 0;");
        x.learner(0, 0);
        skills(x, 0, 70, 69, 31, 30, 0, 71, 32, 29);
        int[] due = {6, 5, 4, 3};
        for (int n = 0; n < due.length; n++) {
            DUE.is("16: nights " + n, x.faded(0, n), due[n]);
        }
        DUE.is("16: 39 nights", x.faded(0, 39), 3);
        DUE.is("16: 40 nights", x.faded(0, 40), 2);
        FootOnTheOtherPedal y = Due.ruled("teaches 0; fades done + day; nerves (done = 0) * 5;");
        y.learner(0, 0);
        skills(y, 0, 36, 28, 30, 29, 26, 25, 24, 0);
        y.set(3, 0, 2);
        DUE.is("16: done now", y.faded(0, 0), 2);
        DUE.is("16: 2 less, but nerve", y.faded(0, 1), 4);
        DUE.is("16: 1 less, by the day", y.faded(0, 2), 4);
        DUE.is("16: 2 less, by the day", y.faded(0, 3), 2);
    }

    private static void test() {
        FootOnTheOtherPedal x = new FootOnTheOtherPedal();
        x.learner(0, 0);
        skills(x, 0, 50, 20, 99, 7, 0, 25, 75, 1);
        long[][] due = {{0, 1, 1}, {1, 1, 2}, {2, 1, 5}, {3, 1, 10}, {4, 99, 100}, {8, 7, 100}, {16, 0, 1},
            {255, 0, 1}, {32, 1, 4}, {64, 3, 4}, {96, 3, 16}, {128, 1, 100}, {140, 693, 1000000}};
        for (long[] row : due) {
            DUE.is("17: above of " + row[0], x.test(0, (int) row[0], 0), row[1]);
            DUE.is("17: below of " + row[0], x.test(0, (int) row[0], 1), row[2]);
        }
        skills(x, 0, 99, 99, 99, 99, 99, 99, 99, 99);
        DUE.is("17: all of 99", x.test(0, 255, 0), 9227446944279201L);
        DUE.is("17: all of 99", x.test(0, 255, 1), 10000000000000000L);
    }

    /** What is only thought leaves all as it is. */
    private static void nothingIsTrue() {
        FootOnTheOtherPedal x = new FootOnTheOtherPedal();
        x.learner(0, 0);
        x.set(13, 0, 44);
        x.set(3, 0, 2);
        x.set(4, 0, 3);
        x.set(0, 0, 5);
        x.best(0, 0);
        x.hours(0, 3, 0, 0);
        x.takes(0, 0, 9);
        x.late(0, 2);
        x.gap(0, 0);
        x.faded(0, 40);
        x.test(0, 255, 0);
        int[] due = {5, 30, 0, 2, 3, 0};
        for (int what = 0; what < due.length; what++) {
            DUE.is("11 to 17: what " + what + " stays", x.told(0, what), due[what]);
        }
        for (int street = 0; street < 8; street++) {
            DUE.is("11 to 17: skill stays", x.told(0, 10 + street), street == 3 ? 44 : 0);
        }
    }

    private static void refuses() {
        FootOnTheOtherPedal x = new FootOnTheOtherPedal();
        x.learner(0, 0);
        int[] none = {1, -1, 5, LOW, HIGH};
        for (int one : none) {
            DUE.is("11: one " + one, x.best(one, 0), BAD);
            DUE.is("12: one " + one, x.hours(one, 0, 0, 0), BAD);
            DUE.is("13: one " + one, x.takes(one, 0, 1), BAD);
            DUE.is("14: one " + one, x.late(one, 0), BAD);
            DUE.is("15: one " + one, x.gap(one, 0), -1000);
            DUE.is("16: one " + one, x.faded(one, 0), BAD);
            DUE.is("17: one " + one, x.test(one, 0, 0), NO);
        }
        int[] outside = {-1, 2, LOW, HIGH};
        for (int v : outside) {
            DUE.is("11: what " + v, x.best(0, v), BAD);
            DUE.is("15: what " + v, x.gap(0, v), -1000);
            DUE.is("17: part " + v, x.test(0, 0, v), NO);
            DUE.is("12: what", x.hours(0, 0, 0, v == 2 ? 3 : v), BAD);
            DUE.is("12: help", x.hours(0, 0, v == 2 ? 3 : v, 0), BAD);
            DUE.is("12: n", x.hours(0, v == 2 ? 4 : v, 0, 0), BAD);
            DUE.is("13: help", x.takes(0, v == 2 ? 3 : v, 1), BAD);
            DUE.is("13: h", x.takes(0, 0, v == 2 ? 10 : v), BAD);
            DUE.is("14: street", x.late(0, v == 2 ? 8 : v), BAD);
            DUE.is("16: n", x.faded(0, v == 2 ? 41 : v), BAD);
            DUE.is("17: bits", x.test(0, v == 2 ? 256 : v, 0), NO);
        }
        DUE.is("13: h 0", x.takes(0, 0, 0), BAD);
    }
}
