/** Promises 18 to 24 and what "Terms" say of them, at their edges: each sentence by itself. */
public final class ToldEdgeTest {
    private static final int NONE = FootOnTheOtherPedal.NONE, BAD = FootOnTheOtherPedal.BAD;
    private static final int STATE = FootOnTheOtherPedal.STATE;
    private static final int LOW = Integer.MIN_VALUE, HIGH = Integer.MAX_VALUE;
    private static final Due DUE = new Due();

    public static void main(String[] args) {
        theFirstThatIsOtherwise();
        anEmptySheetTellsAll();
        itemsThatNoSkillIs();
        eachKindHasItsBit();
        eachNumberHasItsBit();
        eachHelpHasItsBit();
        skillNowIs0To99();
        hardIs0To99();
        eachTextHasItsBit();
        streetAndHelpOfAll();
        allElseIsAsItIs();
        filmOf0And40();
        filmIsOfBytes();
        filmIsOfTheHours();
        drawnByASeed();
        drawnIsLessThanSkill();
        drawnOfStreetsAgain();
        seedsWrapAround();
        chanceOf1And20();
        imageOfNone();
        backIsRepeated();
        imageKeepsAllThatItKeeps();
        imageLeavesTheRest();
        learnersThatCameSinceGo();
        theLastImageIsTheOne();
        countsAtTheirEdges();
        DUE.end();
    }

    private static void tells(String call, FootOnTheOtherPedal x, int streetHelp, int what, int due) {
        DUE.is("18: " + call + ", what " + what, x.tells(0, 0, streetHelp, what), due);
    }

    private static void theFirstThatIsOtherwise() {
        FootOnTheOtherPedal x = Due.one(0, 0, "teaches 2; fades 0; nerves 99;");
        x.film(0, 0, 0, 40);
        tells("as it is", x, 0, 0, NONE);
        int[] places = {39, 38, 20, 1, 0};
        for (int place : places) {
            x.cell(0, place, 100);
            tells("item " + place, x, 0, 0, place);
        }
        for (int size = 1; size <= 40; size++) {
            x.film(0, 0, 0, size);
            tells("as it is, of " + size, x, 0, 0, NONE);
            x.cell(0, size - 1, 1);
            tells("the last of " + size, x, 0, 0, size - 1);
        }
        x.film(0, 0, 0, 5);
        x.set(10, 0, 1);
        tells("SKILL is more", x, 0, 0, 0);
        x.film(0, 0, 0, 5);
        tells("behind 1 HOUR, not behind none", x, 0, 0, NONE);
        Due.row(x, 0, 0, 1, 3, 5);
        tells("SKILL behind none is not told", x, 0, 0, 0);
    }

    private static void anEmptySheetTellsAll() {
        for (int sort = 0; sort < 3; sort++) {
            FootOnTheOtherPedal x = Due.one(3, 4, "teaches 7; fades 1; nerves 5;");
            x.sheet(0, sort, 0);
            int[] due = {NONE, 63, 1023, 7, 100, 0, 100, 0, 3};
            for (int what = 0; what < 9; what++) {
                tells("of none", x, 71, what, due[what]);
            }
        }
    }

    private static void itemsThatNoSkillIs() {
        int[][] all = {{0, -1}, {0, 127}, {0, 255}, {1, 300}, {1, -32768}, {2, 65536}, {2, LOW}, {2, HIGH}, {2, -100}};
        for (int[] row : all) {
            FootOnTheOtherPedal x = Due.one(0, 0, "teaches 0; fades 0; nerves 0;");
            Due.row(x, 0, row[0], 0, row[1]);
            int[] due = {1, 0, 0, 0, 0, NONE, 0, NONE, 0};
            for (int what = 0; what < 9; what++) {
                tells("item " + row[1] + " of sort " + row[0], x, 0, what, due[what]);
            }
            Due.row(x, 0, row[0], 0);
            x.force(0);
            tells("the text that teaches 0 alone", x, 0, 8, 2);
        }
    }

    private static void eachKindHasItsBit() {
        // By no HELP where it is managed: v, 2 v, v / 2, 2 v, v / 2, 3; by a word HELD alone, by a foot RACER alone.
        FootOnTheOtherPedal x = Due.one(5, 4, "teaches 20; fades 0; nerves 99;");
        int[][] all = {{0, 20, 1}, {0, 40, 2 + 8}, {0, 10, 4 + 16}, {0, 3, 32}, {1, 20, 1 + 2 + 4 + 8}, {1, 24, 16},
            {1, 3, 32}, {2, 20, 1 + 2 + 4 + 16}, {2, 0, 8}, {2, 3, 32}, {0, 5, 0}, {0, 0, 0}};
        for (int[] row : all) {
            Due.row(x, 0, 0, row[1]);
            tells(row[1] + " by HELP " + row[0], x, row[0], 1, row[2]);
        }
        DUE.is("18: KIND stays", x.told(0, 5), 5);
    }

    private static void eachNumberHasItsBit() {
        FootOnTheOtherPedal x = Due.one(0, 5, "teaches number * 2; fades 0; nerves 99;");
        for (int number = 0; number < 10; number++) {
            Due.row(x, 0, 0, 2 * number);
            tells("NUMBER " + number, x, 0, 2, 1 << number);
            tells("so far it is 5", x, 0, 0, number == 5 ? NONE : 0);
        }
        Due.row(x, 0, 0, 20);
        tells("10 is no NUMBER", x, 0, 2, 0);
        Due.row(x, 0, 0, 1);
        tells("none is half", x, 0, 2, 0);
        DUE.is("18: NUMBER stays", x.told(0, 2), 5);
        FootOnTheOtherPedal held = Due.one(4, 0, "teaches 3; fades 0; nerves 99;");
        Due.row(held, 0, 0, 12);
        tells("HELD by a word", held, 1, 2, 1 << 9);
        Due.row(held, 0, 0, 13);
        tells("HELD by a word", held, 1, 2, 0);
    }

    private static void eachHelpHasItsBit() {
        FootOnTheOtherPedal x = Due.one(0, 0, "teaches 5 + help; fades 0; nerves 99;");
        int[] due = {0, 1, 2, 4, 0};
        for (int k = 0; k < due.length; k++) {
            Due.row(x, 0, 0, 4 + k);
            for (int help = 0; help < 3; help++) {
                tells(4 + k + ", whatever HELP is asked with", x, help, 3, due[k]);
                tells("by HELP " + help, x, help, 0, due[k] == 1 << help ? NONE : 0);
            }
        }
    }

    private static void skill(FootOnTheOtherPedal x, int item, int howMany, int least) {
        Due.row(x, 0, 0, item);
        tells("SKILL by " + item, x, 0, 4, howMany);
        tells("SKILL by " + item, x, 0, 5, least);
    }

    private static void skillNowIs0To99() {
        FootOnTheOtherPedal x = Due.one(0, 0, "teaches 10; fades 0; nerves 99;");
        skill(x, 9, 0, NONE);
        skill(x, 10, 1, 0);
        skill(x, 11, 1, 1);
        skill(x, 98, 1, 88);
        skill(x, 99, 11, 89);
        skill(x, 100, 0, NONE);
        x.force(Due.text(x, "teaches 0; fades 0; nerves 0;"));
        for (int v = 0; v < 100; v++) {
            skill(x, v, 1, v);
        }
        skill(x, -1, 0, NONE);
        DUE.is("18: SKILL stays", x.told(0, 10), 0);
        FootOnTheOtherPedal all = Due.one(0, 0, "teaches 99; fades 0; nerves 99;");
        skill(all, 99, 100, 0);
        // With HARD 30 and no NERVE: half of 10 below 30, all of it from 30 on.
        FootOnTheOtherPedal half = Due.one(0, 0, "teaches 10; fades 0; nerves 0;");
        skill(half, 34, 1, 29);
        skill(half, 35, 0, NONE);
        skill(half, 39, 0, NONE);
        skill(half, 40, 1, 30);
    }

    private static void hard(FootOnTheOtherPedal x, int item, int howMany, int least) {
        Due.row(x, 0, 0, item);
        tells("HARD by " + item, x, 70, 6, howMany);
        tells("HARD by " + item, x, 70, 7, least);
    }

    private static void hardIs0To99() {
        FootOnTheOtherPedal x = Due.one(0, 0, "teaches 10; fades 0; nerves 0;");
        int[] skills = {0, 1, 50, 89};
        for (int skill : skills) {
            x.set(17, 0, skill);
            hard(x, skill + 10, skill + 1, 0);
            hard(x, skill + 5, 99 - skill, skill + 1);
            hard(x, skill + 6, 0, NONE);
        }
        x.set(17, 0, 98);
        hard(x, 99, 100, 0);
        x.force(Due.text(x, "teaches hard; fades 0; nerves 99;"));
        x.set(17, 0, 0);
        hard(x, 0, 1, 0);
        hard(x, 42, 1, 42);
        hard(x, 99, 1, 99);
        DUE.is("18: HARD stays", x.told(7, 1), 30);
        // The HARD of that STREET alone.
        for (int street = 0; street < 7; street++) {
            DUE.is("18: HARD stays", x.told(street, 1), 30);
        }
    }

    private static void eachTextHasItsBit() {
        FootOnTheOtherPedal x = new FootOnTheOtherPedal();
        x.learner(0, 0);
        for (int text = 1; text < 6; text++) {
            Due.row(x, 0, 0, 20 + text);
            tells("not yet there: " + text, x, 2, 8, 0);
            Due.text(x, "teaches 2" + text + "; fades 0; nerves 0;");
            tells("there: " + text, x, 2, 8, 1 << text);
            Due.row(x, 0, 0, 10);
            tells("the first", x, 2, 8, 1);
            tells("THE RULE is still the first", x, 2, 0, NONE);
        }
        x.sheet(0, 0, 0);
        tells("all six", x, 2, 8, 63);
        x.force(5);
        Due.row(x, 0, 0, 23);
        tells("whatever is THE RULE", x, 2, 8, 8);
        DUE.is("18: THE RULE stays", x.count(6), 5);
    }

    private static void streetAndHelpOfAll() {
        FootOnTheOtherPedal x = Due.one(0, 0, "teaches hard + help; fades 0; nerves 99;");
        for (int street = 0; street < 8; street++) {
            x.set(1, street, 10 + 3 * street);
        }
        for (int street = 0; street < 8; street++) {
            for (int help = 0; help < 3; help++) {
                int skill = 10 + 3 * street + help;
                Due.row(x, 0, 2, skill, 2 * skill);
                tells("STREET " + street + ", HELP " + help, x, 10 * street + help, 0, NONE);
                DUE.is("19: film", x.film(1, 0, 10 * street + help, 2), 2);
                DUE.is("19: STREET " + street + ", HELP " + help, x.tells(1, 0, 10 * street + help, 0), NONE);
                DUE.is("19: and no other HELP", x.tells(1, 0, 10 * street + help, 3), 1 << help);
            }
        }
    }

    private static void allElseIsAsItIs() {
        // Were it another KIND, NUMBER, .., its DONE, DAY and SKILL are the same.
        FootOnTheOtherPedal x = Due.one(0, 3, "teaches done + day + skill; fades 0; nerves 99;");
        x.set(3, 0, 4);
        x.set(0, 0, 5);
        x.set(16, 0, 6);
        Due.row(x, 0, 0, 21, 52);
        int[] due = {NONE, 1, 1023, 7, 1, 6, 100, 0, 2};
        for (int what = 0; what < 9; what++) {
            tells("behind DONE 4, on DAY 5, from 6 on", x, 60, what, due[what]);
        }
    }

    private static void filmOf0And40() {
        FootOnTheOtherPedal x = Due.one(0, 0, "teaches 2; fades 0; nerves 99;");
        DUE.is("19: of none", x.film(3, 0, 0, 0), 0);
        DUE.is("19: it isn't missing", x.cell(3, 0, 0), -12);
        DUE.is("19: of one", x.film(3, 0, 0, 1), 1);
        DUE.is("19: one", x.cell(3, 1, 0), -12);
        DUE.is("19: of 40", x.film(3, 0, 0, 40), 40);
        DUE.is("19: 40", x.cell(3, 40, 0), -12);
        DUE.is("19: as it is", x.tells(3, 0, 0, 0), NONE);
        DUE.is("19: the 40th", x.cell(3, 39, 80), 1);
        DUE.is("19: it is 80", x.tells(3, 0, 0, 0), NONE);
        DUE.is("19: more than 40", x.film(3, 0, 0, 41), BAD);
        DUE.is("19: it stays", x.tells(3, 0, 0, 0), NONE);
        x.film(3, 0, 0, 2);
        DUE.is("19: shorter than it was", x.cell(3, 2, 0), -12);
        x.force(Due.text(x, "teaches 9; fades 0; nerves 99;"));
        x.film(3, 0, 0, 40);
        DUE.is("19: at 99 it stays", x.cell(3, 11, 99), 1);
        DUE.is("19: at 99 it stays", x.cell(3, 39, 99), 1);
        DUE.is("19: at 99 it stays", x.tells(3, 0, 0, 0), NONE);
    }

    private static void filmIsOfBytes() {
        for (int sort = -1; sort < 3; sort++) {
            FootOnTheOtherPedal x = Due.one(0, 0, "teaches 2; fades 0; nerves 99;");
            x.sheet(2, sort, 3);
            x.film(2, 0, 0, 2);
            DUE.is("19: bytes, whatever it was", x.learners(2, 0, 0, 0), 0);
            DUE.is("19: no shorts", x.learners(2, 1, 0, 0), -13);
            DUE.is("19: no ints", x.learners(2, 2, 0, 0), -13);
        }
    }

    private static void filmIsOfTheHours() {
        // From 27 on the first HOUR is a bump, half of 6; DONE counts on in thought.
        FootOnTheOtherPedal x = Due.one(0, 0, "teaches 6 - done; fades 0; nerves 0;");
        x.set(14, 0, 27);
        x.film(0, 0, 41, 6);
        FootOnTheOtherPedal y = Due.one(0, 0, "teaches 6 - done; fades 0; nerves 0;");
        y.set(14, 0, 27);
        int[] due = {30, 35, 39, 42, 44, 45};
        for (int k = 0; k < due.length; k++) {
            DUE.is("9: HOUR " + k, y.drive(0, 4, 1), due[k]);
        }
        Due.row(x, 1, 0, due);
        DUE.is("19: as the HOURS are", x.tells(1, 0, 41, 0), NONE);
        DUE.is("19: as the HOURS are", x.tells(0, 0, 41, 0), NONE);
        DUE.is("19: SKILL stays", x.told(0, 14), 27);
        DUE.is("19: DONE stays", x.told(0, 3), 0);
        DUE.is("19: BUMPS stay", x.told(0, 4), 0);
    }

    private static void skills(FootOnTheOtherPedal x, int... skills) {
        for (int street = 0; street < 8; street++) {
            x.set(10 + street, 0, skills.length == 1 ? skills[0] : skills[street]);
        }
    }

    private static FootOnTheOtherPedal plain() {
        FootOnTheOtherPedal x = new FootOnTheOtherPedal();
        x.learner(0, 0);
        return x;
    }

    /** By a seed the STREETS and what is asked of each, told here with longs. */
    private static int[][] draws(int seed) {
        long z = seed & 0xFFFFFFFFL;
        int[][] all = new int[2][5];
        for (int k = 0; k < 10; k++) {
            z = (z * 1103515245L + 12345L) & 0xFFFFFFFFL;
            all[k / 5][k % 5] = (int) ((z >> 9) % (k < 5 ? 8 : 100));
        }
        return all;
    }

    private static void drawnByASeed() {
        int[] seeds = {0, 1, 2, 6, 10, 42, -1, -2, 511, 512, LOW, LOW + 1, HIGH, HIGH - 1, 1103515245, -1103515245};
        FootOnTheOtherPedal x = plain();
        int[][] all = {{50}, {99}, {0}, {10, 20, 30, 40, 50, 60, 70, 80}, {99, 0, 99, 0, 99, 0, 99, 0}, {1}};
        for (int[] skills : all) {
            skills(x, skills);
            for (int seed : seeds) {
                int[][] drawn = draws(seed);
                int due = 0;
                for (int k = 0; k < 5; k++) {
                    due += drawn[1][k] < (skills.length == 1 ? skills[0] : skills[drawn[0][k]]) ? 1 : 0;
                }
                DUE.is("20: drawn by " + seed, x.drawn(seed, 0), due);
            }
        }
    }

    /** Seed 6 asks 99 of STREET 4 at last; seed 10 asks 0 of it, and 73 of STREET 1. */
    private static void drawnIsLessThanSkill() {
        FootOnTheOtherPedal x = plain();
        skills(x, 99);
        DUE.is("20: 99 is not less than 99", x.drawn(6, 0), 4);
        DUE.is("20: all others are", x.drawn(10, 0), 5);
        skills(x, 0);
        DUE.is("20: 0 is not less than 0", x.drawn(10, 0), 0);
        x.set(14, 0, 1);
        DUE.is("20: 0 is less than 1", x.drawn(10, 0), 1);
        skills(x, 99);
        x.set(11, 0, 73);
        DUE.is("20: 73 is not less than 73", x.drawn(10, 0), 4);
        x.set(11, 0, 74);
        DUE.is("20: 73 is less than 74", x.drawn(10, 0), 5);
    }

    /** Seed 0 draws STREETS 0, 3, 3, 6, 3 and asks 74, 9, 55, 6, 39. */
    private static void drawnOfStreetsAgain() {
        FootOnTheOtherPedal x = plain();
        int[][] all = {{9, 0}, {10, 1}, {39, 1}, {40, 2}, {55, 2}, {56, 3}, {99, 3}};
        for (int[] row : all) {
            x.set(13, 0, row[0]);
            DUE.is("20: three times STREET 3, of SKILL " + row[0], x.drawn(0, 0), row[1]);
        }
        x.set(10, 0, 75);
        x.set(16, 0, 7);
        DUE.is("20: all five", x.drawn(0, 0), 5);
        int[] not = {11, 12, 14, 15, 17};
        for (int what : not) {
            x.set(what, 0, 99);
            DUE.is("20: the others are not asked", x.drawn(0, 0), 5);
        }
    }

    private static void chance(String call, FootOnTheOtherPedal x, int seed, int m, int above, int below) {
        DUE.is("21: " + call + ", above", x.chance(seed, m, 0, 0), above);
        DUE.is("21: " + call + ", below", x.chance(seed, m, 0, 1), below);
    }

    /** The greatest int asks 83 at most, the least int, which is next, 70, and the one behind it 71. */
    private static void seedsWrapAround() {
        FootOnTheOtherPedal x = plain();
        skills(x, 83);
        DUE.is("20: the greatest", x.drawn(HIGH, 0), 4);
        DUE.is("20: the least", x.drawn(LOW, 0), 5);
        chance("the greatest alone", x, HIGH, 1, 0, 1);
        chance("and the least", x, HIGH, 2, 1, 2);
        chance("and the next", x, HIGH, 3, 2, 3);
        skills(x, 84);
        chance("all three", x, HIGH, 3, 1, 1);
        chance("-1 and 0", x, -1, 2, 1, 2);
        skills(x, 88);
        chance("-1 and 0", x, -1, 2, 1, 1);
    }

    private static void chanceOf1And20() {
        FootOnTheOtherPedal x = plain();
        chance("none, of SKILL 0", x, 5, 1, 0, 1);
        chance("none, of SKILL 0", x, 5, 20, 0, 1);
        skills(x, 99);
        chance("one of one", x, 5, 1, 1, 1);
        chance("seed 6 fails", x, 6, 1, 0, 1);
        chance("one of two", x, 5, 2, 1, 2);
        // Of seeds 7 .. 26 none asks 99; of 0 .. 19 seed 6 does.
        chance("20 of 20", x, 7, 20, 1, 1);
        chance("19 of 20", x, 0, 20, 19, 20);
        chance("18 of 19", x, 0, 19, 18, 19);
        skills(x, 75);
        for (int m = 1; m <= 20; m++) {
            int all = 0;
            for (int k = 0; k < m; k++) {
                all += x.drawn(k, 0) == 5 ? 1 : 0;
            }
            int part = m;
            while (all % part != 0 || m % part != 0) {
                part--;
            }
            chance("of " + m, x, 0, m, all / part, m / part);
        }
    }

    private static void imageOfNone() {
        FootOnTheOtherPedal x = new FootOnTheOtherPedal();
        DUE.is("23: there is none", x.back(), STATE);
        DUE.is("22: of no LEARNERS", x.image(), 0);
        DUE.is("23: of no LEARNERS", x.back(), 0);
        for (int k = 0; k < 5; k++) {
            x.learner(k, k);
        }
        DUE.is("23: all five go", x.back(), 0);
        DUE.is("24: none", x.count(0), 0);
        for (int k = 0; k < 5; k++) {
            x.learner(k, k);
        }
        DUE.is("22: of five", x.image(), 5);
        DUE.is("23: of five", x.back(), 5);
        DUE.is("24: five", x.count(0), 5);
    }

    private static void backIsRepeated() {
        FootOnTheOtherPedal x = plain();
        x.set(10, 0, 20);
        x.image();
        for (int time = 0; time < 3; time++) {
            x.set(10, 0, 70);
            x.set(0, 0, 9);
            DUE.is("23: how many", x.back(), 1);
            DUE.is("23: as it was", x.told(0, 10), 20);
            DUE.is("23: as it was", x.told(0, 0), 0);
        }
    }

    /** Each single thing that it keeps is changed by itself. */
    private static void imageKeepsAllThatItKeeps() {
        int[][] all = {{0, 0, 9}, {1, 0, 9}, {1, 7, 9}, {2, 0, 9}, {2, 1, 9}, {3, 0, 9}, {3, 1, 9}, {4, 0, 9}, {4, 1, 9},
            {10, 0, 9}, {13, 1, 9}, {17, 0, 9}, {17, 1, 9}};
        for (int[] change : all) {
            String kept = Seen.of(ToldEdgeTest::imaged);
            String behind = Seen.of(() -> {
                FootOnTheOtherPedal x = imaged();
                x.set(change[0], change[1], change[2]);
                x.back();
                return x;
            });
            DUE.holds("23: what " + change[0] + " of " + change[1], behind.equals(kept));
        }
        String ruled = Seen.of(() -> {
            FootOnTheOtherPedal x = imaged();
            x.force(1);
            x.back();
            return x;
        });
        DUE.holds("23: THE RULE", ruled.equals(Seen.of(ToldEdgeTest::imaged)));
        String lived = Seen.of(() -> {
            FootOnTheOtherPedal x = imaged();
            x.drive(0, 0, 0);
            x.drive(1, 7, 2);
            x.night();
            x.learner(5, 5);
            x.back();
            return x;
        });
        DUE.holds("23: HOURS, a NIGHT, one that came", lived.equals(Seen.of(ToldEdgeTest::imaged)));
    }

    private static FootOnTheOtherPedal imaged() {
        FootOnTheOtherPedal x = new FootOnTheOtherPedal();
        Due.text(x, "teaches 0; fades 0; nerves 0;");
        x.learner(1, 2);
        x.learner(4, 3);
        x.set(3, 1, 4);
        x.set(4, 1, 5);
        x.set(13, 1, 6);
        x.set(0, 0, 7);
        x.set(1, 0, 8);
        x.image();
        return x;
    }

    private static void imageLeavesTheRest() {
        FootOnTheOtherPedal x = plain();
        x.sheet(0, 1, 3);
        x.feed('t');
        x.image();
        Due.row(x, 0, 2, 5, 6);
        x.film(1, 0, 0, 4);
        Due.feed(x, "eaches 31; fades 1; nerves 1;");
        DUE.is("7: a text behind the image", x.text(), 1);
        x.feed('y');
        x.back();
        DUE.is("23: TEXTS stay", x.count(4), 2);
        DUE.is("23: THE TAPE stays", x.count(5), 1);
        DUE.is("23: a SHEET stays", x.cell(0, 2, 0), -12);
        DUE.is("23: its sort stays", x.learners(0, 2, 0, 0), 0);
        DUE.is("23: a SHEET that came stays", x.cell(1, 3, 0), 1);
        DUE.is("8: the text is there", x.force(1), 0);
        DUE.is("5: it teaches", x.asks(0, 0, 0), 31);
        x.back();
        DUE.is("23: THE RULE goes back", x.asks(0, 0, 0), 8);
    }

    private static void learnersThatCameSinceGo() {
        for (int kept = 0; kept <= 5; kept++) {
            FootOnTheOtherPedal x = new FootOnTheOtherPedal();
            for (int k = 0; k < kept; k++) {
                x.learner(k, k);
            }
            DUE.is("22: how many", x.image(), kept);
            for (int k = kept; k < 5; k++) {
                x.learner(5, 9);
            }
            DUE.is("24: five", x.count(0), 5);
            DUE.is("23: how many", x.back(), kept);
            DUE.is("24: how many", x.count(0), kept);
            for (int k = 0; k < 5; k++) {
                DUE.is("4: KIND of " + k, x.told(k, 5), k < kept ? k : BAD);
            }
            DUE.is("3: one comes behind them", x.learner(3, 8), kept < 5 ? kept : FootOnTheOtherPedal.FULL);
        }
    }

    private static void theLastImageIsTheOne() {
        FootOnTheOtherPedal x = plain();
        x.set(10, 0, 1);
        x.image();
        x.learner(2, 2);
        x.set(10, 0, 2);
        DUE.is("22: anew", x.image(), 2);
        x.set(10, 0, 3);
        DUE.is("23: the last", x.back(), 2);
        DUE.is("23: SKILL of the last", x.told(0, 10), 2);
        x.set(0, 0, 999);
        x.image();
        x.night();
        DUE.is("23: behind a refused call", x.back(), 2);
        DUE.is("23: DAY", x.count(1), 999);
    }

    private static void countsAtTheirEdges() {
        FootOnTheOtherPedal x = new FootOnTheOtherPedal();
        for (int k = 0; k < 5; k++) {
            DUE.is("24: LEARNERS", x.count(0), k);
            DUE.is("24: BUMPS of all", x.count(3), 999 * k);
            DUE.is("24: READY", x.count(2), k);
            x.learner(0, 0);
            x.set(4, k, 999);
            for (int street = 0; street < 8; street++) {
                x.set(10 + street, k, 25);
            }
        }
        DUE.is("24: LEARNERS", x.count(0), 5);
        DUE.is("24: BUMPS of all", x.count(3), 4995);
        DUE.is("24: READY", x.count(2), 5);
        x.drive(0, 0, 0);
        DUE.is("24: 999 at most each", x.count(3), 4995);
        x.set(0, 0, 999);
        DUE.is("24: DAY", x.count(1), 999);
        for (int k = 1; k <= 160; k++) {
            x.feed(32);
        }
        DUE.is("24: bytes", x.count(5), 160);
        x.feed(32);
        DUE.is("24: bytes", x.count(5), 160);
        x.text();
        DUE.is("24: bytes", x.count(5), 0);
        DUE.is("24: TEXTS", x.count(4), 1);
        DUE.is("24: THE RULE", x.count(6), 0);
        DUE.is("24: what 7", x.count(7), BAD);
        DUE.is("24: what -1", x.count(-1), BAD);
    }
}
