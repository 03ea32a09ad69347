/** Promises 1 to 5, 9, 10 and what "Terms" say of LEARNERS, HOURS and NIGHTS, at their edges: each sentence by itself. */
public final class LearnerEdgeTest {
    private static final int BAD = FootOnTheOtherPedal.BAD, STATE = FootOnTheOtherPedal.STATE;
    private static final int FULL = FootOnTheOtherPedal.FULL;
    private static final int LOW = Integer.MIN_VALUE, HIGH = Integer.MAX_VALUE;
    private static final int LEARNER = 0, BOLD = 1, SHY = 2, RACER = 3, HELD = 4, OLD = 5;
    private static final Due DUE = new Due();

    public static void main(String[] args) {
        objectsShareNothing();
        ofDoesNotMatterToTheDay();
        leastAndMostOfAll();
        eachStreetIsItsOwn();
        fiveLearnersAtMost();
        allIs0AsOneComes();
        managesAtTheEdge();
        readyIsAllStreets();
        learnsByKind();
        forgetsByKind();
        nerveByKind();
        heldLosesNerveAbove1();
        helpIs0OfFadesAndNerves();
        anHourIsHalfByABump();
        anHourByAFootIsNoBump();
        anHourAtMost();
        anHourIsToldAsItIsAhead();
        aNightLeaves0AtLeast();
        aNightIsToldAsItIsThen();
        theLastNight();
        howManyAreReady();
        DUE.end();
    }

    private static FootOnTheOtherPedal one(int kind, int number, int teaches, int fades, int nerves) {
        return Due.one(kind, number, "teaches " + teaches + ";fades " + fades + ";nerves " + nerves + ";");
    }

    private static void objectsShareNothing() {
        String fresh = Seen.of(FootOnTheOtherPedal::new);
        String behind = Seen.of(() -> {
            FootOnTheOtherPedal x = one(RACER, 7, 9, 8, 7);
            x.set(0, 0, 5);
            x.set(1, 0, 5);
            x.drive(0, 0, 1);
            x.film(0, 0, 0, 40);
            x.feed('a');
            x.image();
            return new FootOnTheOtherPedal();
        });
        DUE.holds("1: a new object is new behind another one's calls", behind.equals(fresh));
    }

    private static void ofDoesNotMatterToTheDay() {
        FootOnTheOtherPedal x = new FootOnTheOtherPedal();
        int[] ofs = {-1, 0, 1, 5, 8, LOW, HIGH};
        int was = 0;
        for (int k = 0; k < ofs.length; k++) {
            DUE.is("2: of " + ofs[k], x.set(0, ofs[k], k + 1), was);
            DUE.is("4: of " + ofs[k], x.told(ofs[k], 0), k + 1);
            was = k + 1;
        }
    }

    /** Each number at its least and its most: what it was is answered, what it becomes is told. */
    private static void leastAndMostOfAll() {
        FootOnTheOtherPedal x = new FootOnTheOtherPedal();
        x.learner(OLD, 5);
        int[][] all = {{0, 999, 0}, {1, 99, 30}, {2, 9, 5}, {3, 99, 0}, {4, 999, 0}, {10, 99, 0}, {17, 99, 0}};
        for (int[] row : all) {
            int what = row[0];
            DUE.is("2: the most, what " + what, x.set(what, 0, row[1]), row[2]);
            DUE.is("4: the most, what " + what, x.told(0, what), row[1]);
            DUE.is("2: 1 more, what " + what, x.set(what, 0, row[1] + 1), BAD);
            DUE.is("2: the same, what " + what, x.set(what, 0, row[1]), row[1]);
            DUE.is("2: the least, what " + what, x.set(what, 0, 0), row[1]);
            DUE.is("4: the least, what " + what, x.told(0, what), 0);
            DUE.is("2: 1 less, what " + what, x.set(what, 0, -1), BAD);
            DUE.is("4: it stays, what " + what, x.told(0, what), 0);
        }
        DUE.is("2: KIND is told, not set", x.set(5, 0, 1), BAD);
        DUE.is("4: KIND", x.told(0, 5), OLD);
    }

    private static void eachStreetIsItsOwn() {
        for (int street = 0; street < 8; street++) {
            FootOnTheOtherPedal x = new FootOnTheOtherPedal();
            x.learner(LEARNER, 0);
            x.learner(LEARNER, 0);
            x.set(1, street, 77);
            x.set(10 + street, 1, 66);
            for (int other = 0; other < 8; other++) {
                DUE.is("2: HARD of " + other, x.told(other, 1), other == street ? 77 : 30);
                DUE.is("2: SKILL in " + other, x.told(1, 10 + other), other == street ? 66 : 0);
                DUE.is("2: the first one's in " + other, x.told(0, 10 + other), 0);
            }
            DUE.is("9: drives in " + street, x.drive(0, street, 2), 10);
            for (int other = 0; other < 8; other++) {
                DUE.is("9: SKILL in " + other, x.told(0, 10 + other), other == street ? 10 : 0);
            }
        }
    }

    private static void fiveLearnersAtMost() {
        FootOnTheOtherPedal x = new FootOnTheOtherPedal();
        for (int k = 0; k < 5; k++) {
            DUE.is("3: none comes", x.learner(6, 0), BAD);
            DUE.is("3: none comes", x.learner(0, 10), BAD);
            DUE.is("24: how many", x.count(0), k);
            DUE.is("4: there is no such one", x.told(k, 2), BAD);
            DUE.is("3: numbered from 0", x.learner(k, 9 - k), k);
        }
        DUE.is("3: no room", x.learner(0, 0), FULL);
        DUE.is("3: five", x.count(0), 5);
        DUE.is("4: no sixth", x.told(5, 2), BAD);
        for (int k = 0; k < 5; k++) {
            DUE.is("4: KIND of " + k, x.told(k, 5), k);
            DUE.is("4: NUMBER of " + k, x.told(k, 2), 9 - k);
        }
        FootOnTheOtherPedal y = new FootOnTheOtherPedal();
        DUE.is("3: KIND 5, NUMBER 0", y.learner(5, 0), 0);
        DUE.is("3: KIND 0, NUMBER 9", y.learner(0, 9), 1);
        DUE.is("4: KIND 5", y.told(0, 5), 5);
        DUE.is("4: NUMBER 9", y.told(1, 2), 9);
    }

    private static void allIs0AsOneComes() {
        FootOnTheOtherPedal x = new FootOnTheOtherPedal();
        x.image();
        for (int time = 0; time < 2; time++) {
            for (int k = 0; k < 5; k++) {
                x.learner(k, 1);
                for (int what = 3; what < 18; what++) {
                    if (what != 5 && what != 6 && what != 7 && what != 8 && what != 9) {
                        DUE.is("3: what " + what + " of " + k, x.told(k, what), 0);
                        x.set(what, k, 9);
                    }
                }
            }
            x.back();
        }
    }

    private static void managesAtTheEdge() {
        int[][] all = {{0, 0, 0, 1}, {0, -1, 0, 0}, {0, -1, 1, 1}, {99, 0, 99, 1}, {99, 0, 98, 0}, {99, 99, 0, 1},
            {99, 98, 0, 0}, {99, 98, 1, 1}, {0, -99, 98, 0}, {0, -99, 99, 1}, {50, 25, 25, 1}, {51, 25, 25, 0},
            {49, 25, 25, 1}};
        for (int[] row : all) {
            FootOnTheOtherPedal x = one(LEARNER, 0, 0, 0, row[1]);
            for (int street = 0; street < 8; street++) {
                x.set(1, street, row[0]);
                x.set(10 + street, 0, row[2]);
                DUE.is("4: HARD " + row[0] + ", NERVE " + row[1] + ", SKILL " + row[2], x.told(0, 20 + street), row[3]);
            }
            DUE.is("4: READY", x.told(0, 6), row[3]);
            DUE.is("4: how many", x.told(0, 7), 8 * row[3]);
        }
    }

    private static void readyIsAllStreets() {
        for (int street = 0; street < 8; street++) {
            FootOnTheOtherPedal x = one(LEARNER, 0, 0, 0, 30);
            DUE.is("4: READY", x.told(0, 6), 1);
            DUE.is("24: READY", x.count(2), 1);
            x.set(1, street, 31);
            DUE.is("4: but for " + street, x.told(0, 6), 0);
            DUE.is("24: but for " + street, x.count(2), 0);
            DUE.is("4: seven", x.told(0, 7), 7);
        }
    }

    private static void learns(int kind, int number, int teaches, int... due) {
        FootOnTheOtherPedal x = one(kind, number, teaches, 0, 0);
        for (int help = 0; help < 3; help++) {
            DUE.is("5: LEARNS of KIND " + kind + ", NUMBER " + number + ", " + teaches + " by HELP " + help,
                x.asks(0, 7, help), due[help]);
        }
    }

    private static void learnsByKind() {
        int[] all = {0, 1, 2, 3, 4, 49, 50, 51, 90, 98, 99, 100, -1};
        for (int v : all) {
            int as = Math.max(0, Math.min(99, v));
            int twice = Math.min(99, 2 * as);
            learns(LEARNER, 9, v, as, as, as);
            learns(BOLD, 9, v, twice, as, as);
            learns(SHY, 9, v, as / 2, as, as);
            learns(RACER, 9, v, twice, as, 0);
            learns(HELD, 0, v, as / 2, as, as);
            learns(HELD, 9, v, as / 2, Math.min(99, as + 9), as);
            learns(OLD, 9, v, Math.min(3, as), Math.min(3, as), Math.min(3, as));
        }
        learns(BOLD, 0, 49, 98, 49, 49);
        learns(BOLD, 0, 50, 99, 50, 50);
        learns(SHY, 0, 3, 1, 3, 3);
        learns(SHY, 0, 1, 0, 1, 1);
        learns(HELD, 9, 90, 45, 99, 90);
        learns(HELD, 9, 91, 45, 99, 91);
        learns(OLD, 0, 2, 2, 2, 2);
        learns(OLD, 0, 3, 3, 3, 3);
        learns(OLD, 0, 4, 3, 3, 3);
    }

    private static void forgets(int kind, int number, int fades, int due) {
        DUE.is("5: FORGETS of KIND " + kind + ", NUMBER " + number + ", " + fades,
            one(kind, number, 0, fades, 0).asks(0, 7, 3), due);
    }

    private static void forgetsByKind() {
        int[][] all = {{0, 0, 1, 0, 9}, {1, 1, 2, 2, 10}, {49, 49, 50, 98, 58}, {50, 50, 51, 99, 59}, {90, 90, 91, 99, 99},
            {91, 91, 92, 99, 99}, {98, 98, 99, 99, 99}, {99, 99, 99, 99, 99}, {100, 99, 99, 99, 99}, {-1, 0, 1, 0, 9}};
        for (int[] row : all) {
            forgets(LEARNER, 9, row[0], row[1]);
            forgets(BOLD, 9, row[0], row[1]);
            forgets(SHY, 9, row[0], row[2]);
            forgets(RACER, 9, row[0], row[3]);
            forgets(HELD, 9, row[0], row[2]);
            forgets(OLD, 9, row[0], row[4]);
            forgets(OLD, 0, row[0], row[1]);
        }
    }

    private static void nerve(int kind, int number, int nerves, int due) {
        DUE.is("5: NERVE of KIND " + kind + ", NUMBER " + number + ", " + nerves,
            one(kind, number, 0, 0, nerves).asks(0, 7, 4), due);
    }

    /** NERVE has no bound of its own; half of what is below 0 is cut toward 0. */
    private static void nerveByKind() {
        int[] all = {-100, -99, -5, -3, -2, -1, 0, 1, 2, 3, 5, 99, 100};
        int[] half = {-49, -49, -2, -1, -1, 0, 0, 0, 1, 1, 2, 49, 49};
        for (int k = 0; k < all.length; k++) {
            int as = Math.max(-99, Math.min(99, all[k]));
            nerve(LEARNER, 9, all[k], as);
            nerve(BOLD, 9, all[k], as + 5);
            nerve(SHY, 9, all[k], as - 5);
            nerve(RACER, 9, all[k], as + 14);
            nerve(RACER, 0, all[k], as + 5);
            nerve(HELD, 9, all[k], as - 5);
            nerve(OLD, 9, all[k], half[k]);
        }
    }

    private static void heldLosesNerveAbove1() {
        int[][] all = {{0, 15}, {1, 15}, {2, 0}, {3, 0}, {99, 0}};
        FootOnTheOtherPedal x = one(HELD, 4, 0, 0, 20);
        FootOnTheOtherPedal low = one(HELD, 4, 0, 0, -20);
        FootOnTheOtherPedal shy = one(SHY, 4, 0, 0, 20);
        for (int[] row : all) {
            x.set(3, 0, row[0]);
            low.set(3, 0, row[0]);
            shy.set(3, 0, row[0]);
            DUE.is("5: HELD with DONE " + row[0], x.asks(0, 0, 4), row[1]);
            DUE.is("5: HELD with DONE " + row[0] + ", of less than 0", low.asks(0, 0, 4), row[1] == 0 ? 0 : -25);
            DUE.is("5: SHY with DONE " + row[0], shy.asks(0, 0, 4), 15);
        }
    }

    private static void helpIs0OfFadesAndNerves() {
        FootOnTheOtherPedal x = Due.one(LEARNER, 0, "teaches 10; fades help * 9 + 1; nerves help * 9 + 1;");
        DUE.is("5: FORGETS", x.asks(0, 0, 3), 1);
        DUE.is("5: NERVE", x.asks(0, 0, 4), 1);
        x.set(1, 0, 5);
        DUE.is("9: a word leaves NERVE as it is", x.drive(0, 0, 1), 5);
        DUE.is("9: a bump", x.told(0, 4), 1);
    }

    private static void anHourIsHalfByABump() {
        int[][] all = {{0, 0}, {1, 0}, {2, 1}, {3, 1}, {98, 49}, {99, 49}};
        for (int[] row : all) {
            for (int help = 0; help < 2; help++) {
                FootOnTheOtherPedal x = one(LEARNER, 0, row[0], 0, 0);
                DUE.is("9: half of " + row[0] + " by HELP " + help, x.drive(0, 0, help), row[1]);
                DUE.is("9: a bump", x.told(0, 4), 1);
                FootOnTheOtherPedal y = one(LEARNER, 0, row[0], 0, 30);
                DUE.is("9: all of " + row[0] + " by HELP " + help, y.drive(0, 0, help), row[0]);
                DUE.is("9: no bump", y.told(0, 4), 0);
            }
        }
        // Of a KIND's, which is cut before: half of 7 is 3, half of that 1.
        DUE.is("9: half of a SHY's", one(SHY, 0, 7, 0, 0).drive(0, 0, 0), 1);
        DUE.is("9: half of a BOLD's that is bounded", one(BOLD, 0, 60, 0, 0).drive(0, 0, 0), 49);
    }

    private static void anHourByAFootIsNoBump() {
        FootOnTheOtherPedal x = one(LEARNER, 0, 7, 0, -99);
        DUE.is("9: all of it", x.drive(0, 5, 2), 7);
        DUE.is("9: no bump", x.told(0, 4), 0);
        DUE.is("9: an HOUR", x.told(0, 3), 1);
        FootOnTheOtherPedal racer = one(RACER, 0, 7, 0, -99);
        DUE.is("9: a RACER learns nothing", racer.drive(0, 5, 2), 0);
        DUE.is("9: nor bumps", racer.told(0, 4), 0);
        DUE.is("9: an HOUR", racer.told(0, 3), 1);
    }

    private static void anHourAtMost() {
        FootOnTheOtherPedal x = one(LEARNER, 0, 10, 0, 99);
        int[][] skills = {{88, 98}, {89, 99}, {90, 99}, {98, 99}, {99, 99}};
        for (int[] row : skills) {
            x.set(10, 0, row[0]);
            DUE.is("9: SKILL from " + row[0], x.drive(0, 0, 0), row[1]);
            DUE.is("9: SKILL from " + row[0], x.told(0, 10), row[1]);
        }
        int[][] dones = {{97, 98}, {98, 99}, {99, 99}};
        for (int[] row : dones) {
            x.set(3, 0, row[0]);
            x.drive(0, 0, 0);
            DUE.is("9: DONE from " + row[0], x.told(0, 3), row[1]);
        }
        FootOnTheOtherPedal y = one(LEARNER, 0, 10, 0, -99);
        int[][] bumps = {{997, 998}, {998, 999}, {999, 999}};
        for (int[] row : bumps) {
            y.set(4, 0, row[0]);
            y.set(10, 0, 0);
            DUE.is("9: half, with BUMPS " + row[0], y.drive(0, 0, 1), 5);
            DUE.is("9: BUMPS from " + row[0], y.told(0, 4), row[1]);
        }
    }

    private static void anHourIsToldAsItIsAhead() {
        FootOnTheOtherPedal x = Due.one(LEARNER, 0, "teaches 10 + done * 5; fades 0; nerves 30 - done * 30;");
        DUE.is("9: by DONE 0, and managed", x.drive(0, 0, 0), 10);
        DUE.is("9: by DONE 1, half of 15", x.drive(0, 0, 0), 17);
        DUE.is("9: one bump", x.told(0, 4), 1);
        FootOnTheOtherPedal y = Due.one(LEARNER, 0, "teaches 30; fades 0; nerves 0;");
        y.set(10, 0, 1);
        DUE.is("9: by the SKILL ahead it is a bump", y.drive(0, 0, 0), 16);
        FootOnTheOtherPedal held = one(HELD, 0, 0, 0, 35);
        held.set(3, 0, 1);
        held.drive(0, 0, 0);
        DUE.is("9: HELD with DONE 1 ahead", held.told(0, 4), 0);
        held.drive(0, 0, 0);
        DUE.is("9: HELD with DONE 2 ahead", held.told(0, 4), 1);
    }

    private static void aNightLeaves0AtLeast() {
        int[][] all = {{0, 0, 0}, {0, 99, 0}, {7, 8, 1}, {7, 7, 0}, {7, 6, 0}, {7, 0, 0}, {99, 99, 0}, {99, 98, 0}, {0, 50, 50}};
        for (int[] row : all) {
            FootOnTheOtherPedal x = one(LEARNER, 0, 0, row[0], 0);
            for (int street = 0; street < 8; street++) {
                x.set(10 + street, 0, row[1]);
            }
            x.night();
            int due = row[0] == 0 ? row[1] : row[2];
            for (int street = 0; street < 8; street++) {
                DUE.is("10: FORGETS " + row[0] + " of " + row[1], x.told(0, 10 + street), due);
            }
        }
    }

    private static void aNightIsToldAsItIsThen() {
        FootOnTheOtherPedal x = Due.one(LEARNER, 0, "teaches 0; fades done + day * 10; nerves 0;");
        x.learner(LEARNER, 0);
        for (int street = 0; street < 8; street++) {
            x.set(10 + street, 0, 50);
            x.set(10 + street, 1, 50);
        }
        x.set(3, 0, 4);
        x.set(3, 1, 9);
        x.set(0, 0, 1);
        x.night();
        for (int street = 0; street < 8; street++) {
            DUE.is("10: by DONE and DAY ahead", x.told(0, 10 + street), 36);
            DUE.is("10: by DONE and DAY ahead", x.told(1, 10 + street), 31);
        }
        DUE.is("10: DONE is 0 of all", x.told(0, 3) + x.told(1, 3), 0);
        DUE.is("10: DAY is 1 more", x.told(0, 0), 2);
        x.night();
        DUE.is("10: by DONE 0 and DAY 2", x.told(0, 10), 16);
        FootOnTheOtherPedal y = Due.one(LEARNER, 0, "teaches 0; fades skill - hard; nerves 0;");
        y.set(10, 0, 29);
        y.set(11, 0, 31);
        y.set(17, 0, 99);
        y.night();
        DUE.is("10: by SKILL and HARD there", y.told(0, 10), 29);
        DUE.is("10: by SKILL and HARD there", y.told(0, 11), 30);
        DUE.is("10: by SKILL and HARD there", y.told(0, 17), 30);
    }

    private static void theLastNight() {
        FootOnTheOtherPedal x = one(LEARNER, 0, 0, 1, 0);
        x.set(10, 0, 9);
        x.set(0, 0, 998);
        DUE.is("10: DAY 998", x.night(), 0);
        DUE.is("10: DAY is", x.told(0, 0), 999);
        DUE.is("10: faded", x.told(0, 10), 8);
        x.set(3, 0, 4);
        DUE.is("10: DAY 999", x.night(), STATE);
        DUE.is("10: DAY stays", x.told(0, 0), 999);
        DUE.is("10: SKILL stays", x.told(0, 10), 8);
        DUE.is("10: DONE stays", x.told(0, 3), 4);
        x.set(0, 0, 997);
        DUE.is("10: DAY 997", x.night(), 0);
        FootOnTheOtherPedal none = new FootOnTheOtherPedal();
        DUE.is("10: without learners", none.night(), 0);
        DUE.is("10: DAY is", none.count(1), 1);
    }

    private static void howManyAreReady() {
        FootOnTheOtherPedal x = Due.ruled("teaches 0; fades 1; nerves 0;");
        for (int k = 0; k < 5; k++) {
            x.learner(LEARNER, 0);
            for (int street = 0; street < 8; street++) {
                x.set(10 + street, k, 29 + k);
            }
        }
        int[] due = {3, 2, 1, 0, 0};
        DUE.is("24: ahead", x.count(2), 4);
        for (int night = 0; night < due.length; night++) {
            DUE.is("10: READY behind it", x.night(), due[night]);
            DUE.is("24: READY behind it", x.count(2), due[night]);
        }
        FootOnTheOtherPedal y = Due.ruled("teaches 0; fades 0; nerves 30;");
        for (int k = 0; k < 5; k++) {
            y.learner(LEARNER, 0);
        }
        DUE.is("10: all five", y.night(), 5);
    }
}
