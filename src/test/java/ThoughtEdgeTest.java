/** Promises 11 to 17 and what "Terms" say of them, at their edges: each sentence by itself. */
public final class ThoughtEdgeTest {
    private static final int NONE = FootOnTheOtherPedal.NONE;
    private static final Due DUE = new Due();

    public static void main(String[] args) {
        bestOfLikeOnesIsTheFirstStreet();
        bestOfLikeOnesIsTheLeastHelp();
        bestAtTheMost();
        bestIsOfAllSkills();
        hoursOfNone();
        hoursOfOneToThree();
        hoursOfLikeOnes();
        hoursWithHelp();
        hoursWithMostBumps();
        takesNow();
        takesOneDay();
        takesFortyDays();
        takesTheFirstOfLeastSkill();
        takesOneToNineHours();
        takesANightBehindEach();
        lateNow();
        lateThirty();
        lateByBumpsAlone();
        gapOfLikeOnes();
        gapAtTheMost();
        fadedOfNoneAndForty();
        fadedLeaves0AtLeast();
        nightsInThoughtOnTheLastDay();
        testOfNoStreets();
        testOfEachStreet();
        testInLowestTerms();
        DUE.end();
    }

    private static void allHard(FootOnTheOtherPedal x, int hard) {
        for (int street = 0; street < 8; street++) {
            x.set(1, street, hard);
        }
    }

    private static void allSkill(FootOnTheOtherPedal x, int skill) {
        for (int street = 0; street < 8; street++) {
            x.set(10 + street, 0, skill);
        }
    }

    private static void best(String call, FootOnTheOtherPedal x, int hour, int together) {
        DUE.is("11: " + call, x.best(0, 0), hour);
        DUE.is("11: " + call + ": together", x.best(0, 1), together);
    }

    private static void bestOfLikeOnesIsTheFirstStreet() {
        for (int street = 0; street < 8; street++) {
            FootOnTheOtherPedal x = Due.one(0, 0, "teaches 9; fades 0; nerves 99;");
            for (int ahead = 0; ahead < street; ahead++) {
                x.set(10 + ahead, 0, 91);
            }
            best("the first that has room: " + street, x, 10 * street, 91 * street + 9);
        }
        FootOnTheOtherPedal y = Due.one(0, 0, "teaches 9; fades 0; nerves 99;");
        allSkill(y, 91);
        y.set(17, 0, 90);
        best("the last alone has room", y, 70, 91 * 7 + 99);
        y.set(13, 0, 90);
        best("two have", y, 30, 91 * 6 + 90 + 99);
    }

    private static void bestOfLikeOnesIsTheLeastHelp() {
        best("all like", Due.one(0, 0, "teaches 9; fades 0; nerves 99;"), 0, 9);
        best("a word as a foot", Due.one(0, 0, "teaches 9 + (not help = 0); fades 0; nerves 99;"), 1, 10);
        best("a foot alone", Due.one(0, 0, "teaches 9 + (help = 2); fades 0; nerves 99;"), 2, 10);
        best("a foot, as it is no bump", Due.one(0, 0, "teaches 9; fades 0; nerves 0;"), 2, 9);
        best("none as a word: both bump", Due.one(3, 0, "teaches 9; fades 0; nerves 0;"), 0, 9);
        best("half of 1 is as nothing", Due.one(3, 0, "teaches help; fades 0; nerves 0;"), 0, 0);
        best("there is no HELP above a foot", Due.one(0, 0, "teaches help * 5; fades 0; nerves 99;"), 2, 10);
        best("the STREET goes ahead of HELP", Due.one(0, 0, "teaches help = 2; fades 0; nerves 99;"), 2, 1);
    }

    private static void bestAtTheMost() {
        FootOnTheOtherPedal x = Due.one(0, 0, "teaches 9; fades 0; nerves 99;");
        allSkill(x, 99);
        best("99 is the most", x, 0, 792);
        x.set(17, 0, 98);
        best("one has room", x, 70, 792);
        allSkill(x, 98);
        best("each has", x, 0, 8 * 98 + 1);
        FootOnTheOtherPedal none = Due.one(0, 0, "teaches 0; fades 0; nerves 0;");
        best("nothing is taught", none, 0, 0);
    }

    private static void bestIsOfAllSkills() {
        FootOnTheOtherPedal x = Due.one(0, 0, "teaches skill; fades 0; nerves 99;");
        for (int street = 0; street < 8; street++) {
            x.set(10 + street, 0, 5 * street);
        }
        best("35 more in the last", x, 70, 140 + 35);
        x.set(15, 0, 49);
        best("49 more", x, 50, 140 + 24 + 49);
        x.set(14, 0, 50);
        best("49 more in an earlier one", x, 40, 140 + 24 + 30 + 49);
    }

    private static void hours(String call, FootOnTheOtherPedal x, int n, int help, int row, int managed, int bumps) {
        DUE.is("12: " + call, x.hours(0, n, help, 0), row);
        DUE.is("12: " + call + ": MANAGED", x.hours(0, n, help, 1), managed);
        DUE.is("12: " + call + ": BUMPS", x.hours(0, n, help, 2), bumps);
    }

    private static void hoursOfNone() {
        FootOnTheOtherPedal x = Due.one(0, 0, "teaches 9; fades 0; nerves 0;");
        hours("none is managed", x, 0, 0, 0, 0, 0);
        x.set(1, 7, 0);
        x.set(4, 0, 7);
        hours("one is managed now", x, 0, 1, 0, 1, 0);
        allHard(x, 0);
        hours("all are", x, 0, 2, 0, 8, 0);
    }

    private static void hoursOfOneToThree() {
        for (int street = 0; street < 8; street++) {
            FootOnTheOtherPedal x = Due.one(0, 0, "teaches 10; fades 0; nerves 0;");
            allHard(x, 99);
            x.set(1, street, 10);
            hours("one HOUR there", x, 1, 2, street + 1, 1, 0);
            x.set(1, street, 20);
            hours("one isn't enough", x, 1, 2, 1, 0, 0);
            hours("two HOURS there", x, 2, 2, 11 * (street + 1), 1, 0);
            x.set(1, street, 30);
            hours("two aren't enough", x, 2, 2, 11, 0, 0);
            hours("three HOURS there", x, 3, 2, 111 * (street + 1), 1, 0);
            x.set(1, street, 31);
            hours("three aren't enough", x, 3, 2, 111, 0, 0);
        }
        FootOnTheOtherPedal y = Due.one(0, 0, "teaches 30 - done * 10; fades 0; nerves 0;");
        y.set(1, 7, 29);
        y.set(1, 3, 20);
        y.set(1, 5, 10);
        hours("30 in the first, 20 in the fourth, 10 in the sixth", y, 3, 2, 146, 3, 0);
        y.set(1, 0, 99);
        hours("the first is too hard", y, 3, 2, 246, 3, 0);
    }

    /** Of like ones the first: the row whose digits are the least. */
    private static void hoursOfLikeOnes() {
        FootOnTheOtherPedal x = Due.one(0, 0, "teaches 10; fades 0; nerves 0;");
        allHard(x, 10);
        hours("the first", x, 1, 2, 1, 1, 0);
        hours("the first two", x, 2, 2, 12, 2, 0);
        hours("the first three", x, 3, 2, 123, 3, 0);
        x.set(1, 0, 99);
        x.set(1, 1, 99);
        hours("the third to fifth", x, 3, 2, 345, 3, 0);
        allHard(x, 99);
        x.set(1, 7, 10);
        hours("one for the last, ahead of it the first", x, 3, 2, 118, 1, 0);
        allHard(x, 0);
        hours("no HOUR makes a difference", x, 3, 2, 111, 8, 0);
    }

    private static void hoursWithHelp() {
        FootOnTheOtherPedal x = Due.one(0, 0, "teaches 10 + help * 2; fades 0; nerves 0;");
        allHard(x, 99);
        x.set(1, 2, 12);
        hours("no HELP: 5, 5, 5", x, 3, 0, 333, 1, 3);
        hours("a word: 6, 6", x, 2, 1, 33, 1, 2);
        hours("a word: 6", x, 1, 1, 1, 0, 1);
        x.set(1, 2, 14);
        hours("a foot: 14", x, 1, 2, 3, 1, 0);
        x.set(1, 0, 0);
        hours("no BUMP in the first", x, 1, 0, 1, 1, 0);
        hours("BUMPS in the third alone", x, 3, 0, 333, 2, 3);
        hours("two are not enough, and the first bumps none", x, 2, 0, 11, 1, 0);
    }

    private static void hoursWithMostBumps() {
        int[][] all = {{996, 3}, {997, 2}, {998, 1}, {999, 0}};
        for (int[] row : all) {
            FootOnTheOtherPedal x = Due.one(0, 0, "teaches 0; fades 0; nerves 0;");
            x.set(4, 0, row[0]);
            hours("BUMPS " + row[0] + " have so much room", x, 3, 1, 111, 0, row[1]);
        }
    }

    private static void takesNow() {
        FootOnTheOtherPedal x = Due.one(0, 0, "teaches 0; fades 99; nerves 0;");
        allHard(x, 50);
        allSkill(x, 50);
        for (int h = 1; h < 10; h++) {
            DUE.is("13: READY now, " + h, x.takes(0, h % 3, h), 0);
        }
        x.set(14, 0, 49);
        DUE.is("13: never", x.takes(0, 0, 1), NONE);
    }

    private static void takesOneDay() {
        FootOnTheOtherPedal x = Due.one(0, 0, "teaches 1; fades 99; nerves 0;");
        allHard(x, 9);
        allSkill(x, 9);
        x.set(15, 0, 8);
        DUE.is("13: READY behind the HOURS, ahead of the NIGHT", x.takes(0, 2, 1), 1);
        x.set(15, 0, 0);
        DUE.is("13: nine of the day", x.takes(0, 2, 9), 1);
        DUE.is("13: eight are not enough, and the NIGHT takes all", x.takes(0, 2, 8), NONE);
    }

    private static void takesFortyDays() {
        FootOnTheOtherPedal x = Due.one(0, 0, "teaches 0; fades 0; nerves day;");
        // Behind the HOURS of the first day DAY is what it is now, behind those of the 40th 39 more.
        int[][] all = {{0, 0}, {1, 2}, {2, 3}, {38, 39}, {39, 40}, {40, NONE}, {41, NONE}, {99, NONE}};
        for (int[] row : all) {
            allHard(x, row[0]);
            DUE.is("13: till DAY " + row[0], x.takes(0, 0, 1), row[1]);
        }
        x.set(0, 0, 60);
        DUE.is("13: from DAY 60 on", x.takes(0, 0, 1), 40);
        x.set(0, 0, 59);
        DUE.is("13: from DAY 59 on", x.takes(0, 0, 1), NONE);
    }

    private static void takesTheFirstOfLeastSkill() {
        FootOnTheOtherPedal x = Due.one(0, 0, "teaches 3; fades 0; nerves 0;");
        allHard(x, 3);
        DUE.is("13: the first, the second, ..", x.takes(0, 2, 1), 8);
        DUE.is("13: eight in a day", x.takes(0, 2, 8), 1);
        DUE.is("13: seven, and one", x.takes(0, 2, 7), 2);
        // Of SKILL 0 the second is the first; the first, of SKILL 2, comes when all are at 3.
        x.set(10, 0, 2);
        x.set(1, 0, 5);
        DUE.is("13: the first STREET last", x.takes(0, 2, 1), 8);
        x.set(1, 7, 0);
        x.set(10, 0, 3);
        x.set(1, 0, 6);
        // 1 .. 7 are at 3 behind seven HOURS, though 7 is not hard; then of like ones it is the first.
        DUE.is("13: the first of like ones", x.takes(0, 2, 1), 8);
        x.set(1, 0, 3);
        x.set(1, 1, 6);
        DUE.is("13: the second behind the first", x.takes(0, 2, 1), 9);
    }

    private static void takesOneToNineHours() {
        int[] due = {18, 9, 6, 5, 4, 3, 3, 3, 2};
        FootOnTheOtherPedal x = Due.one(0, 0, "teaches 1; fades 0; nerves 0;");
        allHard(x, 0);
        allSkill(x, 99);
        x.set(1, 4, 18);
        x.set(14, 0, 0);
        for (int h = 1; h < 10; h++) {
            DUE.is("13: 18 by " + h + " a day", x.takes(0, 2, h), due[h - 1]);
        }
        DUE.is("13: by HELP 0 each is half of 1", x.takes(0, 0, 9), NONE);
        DUE.is("13: by HELP 1 each is half of 1", x.takes(0, 1, 9), NONE);
    }

    private static void takesANightBehindEach() {
        FootOnTheOtherPedal x = Due.one(0, 0, "teaches 5 - done; fades 2; nerves 0;");
        allHard(x, 0);
        allSkill(x, 99);
        x.set(14, 0, 0);
        x.set(1, 4, 13);
        // 5 + 4, less 2, and so on: DONE is 0 behind each NIGHT.
        DUE.is("13: 9, 7, 16", x.takes(0, 2, 2), 2);
        x.set(1, 4, 17);
        DUE.is("13: 9, 7, 16, 14, 23", x.takes(0, 2, 2), 3);
        x.set(1, 4, 23);
        DUE.is("13: 23", x.takes(0, 2, 2), 3);
        x.set(3, 0, 5);
        DUE.is("13: nothing on the first day", x.takes(0, 2, 2), 4);
    }

    private static void lateNow() {
        FootOnTheOtherPedal x = Due.one(0, 0, "teaches 0; fades 0; nerves 0;");
        DUE.is("14: never", x.late(0, 0), NONE);
        for (int street = 0; street < 8; street++) {
            x.set(10 + street, 0, 30);
            DUE.is("14: now", x.late(0, street), 0);
            x.set(10 + street, 0, 29);
            DUE.is("14: never", x.late(0, street), NONE);
        }
    }

    private static void lateThirty() {
        // Half of 2 a BUMP.
        FootOnTheOtherPedal x = Due.one(0, 0, "teaches 2; fades 0; nerves 0;");
        int[][] all = {{0, 0}, {1, 1}, {2, 2}, {29, 29}, {30, 30}, {31, NONE}, {99, NONE}};
        for (int[] row : all) {
            x.set(1, 7, row[0]);
            DUE.is("14: of HARD " + row[0], x.late(0, 7), row[1]);
        }
    }

    private static void lateByBumpsAlone() {
        FootOnTheOtherPedal x = Due.one(4, 9, "teaches 8; fades 0; nerves 15;");
        x.set(1, 0, 12);
        // HELD: NERVE is 10 till two HOURS are DONE, and 0 then: 2 an HOUR.
        DUE.is("14: 2 and NERVE 10", x.late(0, 0), 1);
        x.set(1, 0, 13);
        DUE.is("14: NERVE goes: 13 by 2 each", x.late(0, 0), 7);
        x.set(1, 0, 15);
        DUE.is("14: 15 by 2 each", x.late(0, 0), 8);
        x.set(4, 0, 999);
        DUE.is("14: whatever BUMPS there were", x.late(0, 0), 8);
        x.set(3, 0, 99);
        DUE.is("14: whatever was DONE", x.late(0, 0), 8);
    }

    private static void gapOfLikeOnes() {
        for (int street = 0; street < 8; street++) {
            FootOnTheOtherPedal x = Due.one(0, 0, "teaches 0; fades 0; nerves 0;");
            for (int last = street; last < 8; last++) {
                x.set(1, last, 31);
            }
            DUE.is("15: the first of like ones", x.gap(0, 0), street);
            DUE.is("15: by how much", x.gap(0, 1), -31);
            for (int other = 0; other < 8; other++) {
                x.set(1, other, other == street ? 31 : 30);
            }
            DUE.is("15: one alone", x.gap(0, 0), street);
            x.set(10 + street, 0, 1);
            DUE.is("15: all like", x.gap(0, 0), 0);
            DUE.is("15: by how much", x.gap(0, 1), -30);
            x.set(10 + street, 0, 2);
            DUE.is("15: all but one", x.gap(0, 0), street == 0 ? 1 : 0);
        }
    }

    private static void gapAtTheMost() {
        FootOnTheOtherPedal low = Due.one(2, 0, "teaches 0; fades 0; nerves -99;");
        allHard(low, 99);
        DUE.is("15: the least that can be", low.gap(0, 1), -203);
        FootOnTheOtherPedal high = Due.one(3, 9, "teaches 0; fades 0; nerves 99;");
        allHard(high, 0);
        allSkill(high, 99);
        DUE.is("15: the most that can be", high.gap(0, 1), 212);
        DUE.is("15: though all are managed", high.gap(0, 0), 0);
        allHard(high, 99);
        allSkill(high, 0);
        high.set(17, 0, 0);
        high.set(1, 0, 98);
        DUE.is("15: just more", high.gap(0, 1), 14);
        DUE.is("15: the second", high.gap(0, 0), 1);
    }

    private static void fadedOfNoneAndForty() {
        FootOnTheOtherPedal x = Due.one(0, 0, "teaches 0; fades 1; nerves 0;");
        int[] skills = {29, 30, 31, 32, 68, 69, 70, 71};
        for (int street = 0; street < 8; street++) {
            x.set(10 + street, 0, skills[street]);
        }
        int[][] all = {{0, 7}, {1, 6}, {2, 5}, {3, 4}, {38, 4}, {39, 3}, {40, 2}};
        for (int[] row : all) {
            DUE.is("16: behind " + row[0], x.faded(0, row[0]), row[1]);
        }
        FootOnTheOtherPedal y = Due.one(0, 0, "teaches 0; fades 0; nerves day;");
        y.set(0, 0, 1);
        int[] hards = {1, 2, 39, 40, 41, 42, 99, 99};
        for (int street = 0; street < 8; street++) {
            y.set(1, street, hards[street]);
        }
        int[][] days = {{0, 1}, {1, 2}, {38, 3}, {39, 4}, {40, 5}};
        for (int[] row : days) {
            DUE.is("16: by the DAY behind " + row[0], y.faded(0, row[0]), row[1]);
        }
        FootOnTheOtherPedal held = Due.one(4, 0, "teaches 0; fades 0; nerves 35;");
        held.set(3, 0, 2);
        DUE.is("16: HELD now", held.faded(0, 0), 0);
        DUE.is("16: DONE is 0 behind a NIGHT", held.faded(0, 1), 8);
    }

    private static void fadedLeaves0AtLeast() {
        FootOnTheOtherPedal x = Due.one(0, 0, "teaches 0; fades 99; nerves 30;");
        allSkill(x, 50);
        DUE.is("16: SKILL 0 and NERVE 30", x.faded(0, 1), 8);
        DUE.is("16: SKILL 0 at least", x.faded(0, 2), 8);
        DUE.is("16: SKILL 0 at least", x.faded(0, 40), 8);
    }

    /** It is night() alone that is refused on DAY 999: in thought a NIGHT makes DAY 1 more. */
    private static void nightsInThoughtOnTheLastDay() {
        FootOnTheOtherPedal x = Due.one(0, 0, "teaches 0; fades 1; nerves day - 999;");
        x.set(0, 0, 999);
        allSkill(x, 31);
        allHard(x, 30);
        DUE.is("10: refused", x.night(), FootOnTheOtherPedal.STATE);
        DUE.is("16: 30 and 1", x.faded(0, 1), 8);
        DUE.is("16: 0 and 40", x.faded(0, 40), 8);
        allHard(x, 32);
        DUE.is("16: 0 and 40", x.faded(0, 40), 8);
        DUE.is("13: 31 and 0, 30 and 1, .., 0 and 32", x.takes(0, 0, 1), 33);
        allSkill(x, 0);
        DUE.is("13: 0 and 32", x.takes(0, 0, 1), 33);
        DUE.is("24: DAY stays", x.count(1), 999);
    }

    private static void test(FootOnTheOtherPedal x, int streets, long above, long below) {
        DUE.is("17: above of " + streets, x.test(0, streets, 0), above);
        DUE.is("17: below of " + streets, x.test(0, streets, 1), below);
    }

    private static void testOfNoStreets() {
        FootOnTheOtherPedal x = Due.one(0, 0, "teaches 0; fades 0; nerves 0;");
        test(x, 0, 1, 1);
        test(x, 1, 0, 1);
        test(x, 255, 0, 1);
        allSkill(x, 99);
        test(x, 0, 1, 1);
    }

    private static void testOfEachStreet() {
        FootOnTheOtherPedal x = Due.one(0, 0, "teaches 0; fades 0; nerves 0;");
        int[] primes = {7, 11, 13, 17, 19, 23, 29, 31};
        long all = 1;
        for (int street = 0; street < 8; street++) {
            x.set(10 + street, 0, primes[street]);
            all *= primes[street];
        }
        for (int street = 0; street < 8; street++) {
            test(x, 1 << street, primes[street], 100);
            test(x, 255 - (1 << street), all / primes[street], 100_000_000_000_000L);
        }
        test(x, 255, all, 10_000_000_000_000_000L);
        x.set(17, 0, 0);
        test(x, 127, all / 31, 100_000_000_000_000L);
        test(x, 128, 0, 1);
        test(x, 255, 0, 1);
    }

    private static void testInLowestTerms() {
        FootOnTheOtherPedal x = Due.one(0, 0, "teaches 0; fades 0; nerves 0;");
        int[][] all = {{1, 1, 100}, {2, 1, 50}, {25, 1, 4}, {50, 1, 2}, {64, 16, 25}, {75, 3, 4}, {80, 4, 5}, {96, 24, 25},
            {98, 49, 50}, {99, 99, 100}};
        for (int[] row : all) {
            x.set(13, 0, row[0]);
            test(x, 8, row[1], row[2]);
        }
        allSkill(x, 50);
        test(x, 255, 1, 256);
        allSkill(x, 80);
        test(x, 255, 65536, 390625);
        allSkill(x, 1);
        test(x, 255, 1, 10_000_000_000_000_000L);
        allSkill(x, 99);
        test(x, 255, 9227446944279201L, 10_000_000_000_000_000L);
    }
}
