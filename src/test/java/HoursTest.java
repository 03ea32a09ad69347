/** Promises 9 and 10: drive, night. */
public final class HoursTest {
    private static final int BAD = FootOnTheOtherPedal.BAD, STATE = FootOnTheOtherPedal.STATE;
    private static final Due DUE = new Due();

    public static void main(String[] args) {
        drives();
        driveAtEdges();
        driveRefuses();
        nights();
        nightByWhatIsAhead();
        nightIsRefused();
        DUE.end();
    }

    private static void drives() {
        FootOnTheOtherPedal x = new FootOnTheOtherPedal();
        x.learner(0, 0);
        x.learner(0, 0);
        DUE.is("9: a bump: half of 8", x.drive(0, 0, 0), 4);
        DUE.is("9: bumps", x.told(0, 4), 1);
        DUE.is("9: done", x.told(0, 3), 1);
        DUE.is("9: a foot: 9", x.drive(0, 0, 2), 13);
        DUE.is("9: no bump by a foot", x.told(0, 4), 1);
        DUE.is("9: a word, a bump: half of 7", x.drive(0, 0, 1), 16);
        DUE.is("9: bumps", x.told(0, 4), 2);
        x.set(10, 0, 25);
        DUE.is("9: just managed: 5", x.drive(0, 0, 0), 30);
        DUE.is("9: no bump", x.told(0, 4), 2);
        x.set(10, 0, 24);
        DUE.is("9: just not: half of 4", x.drive(0, 0, 0), 26);
        DUE.is("9: bumps", x.told(0, 4), 3);
        DUE.is("9: done", x.told(0, 3), 5);
        for (int street = 1; street < 8; street++) {
            DUE.is("9: other streets stay", x.told(0, 10 + street), 0);
        }
        DUE.is("9: the other stays", x.told(1, 10) + x.told(1, 3) + x.told(1, 4), 0);
        DUE.is("9: the day stays", x.told(0, 0), 0);
        FootOnTheOtherPedal y = Due.ruled("teaches skill; fades 0; nerves 50 - done * 100;");
        y.learner(0, 0);
        y.set(13, 0, 11);
        DUE.is("9: all as it is ahead", y.drive(0, 3, 0), 22);
        DUE.is("9: no bump", y.told(0, 4), 0);
        DUE.is("9: then the nerve is gone", y.drive(0, 3, 1), 33);
        DUE.is("9: a bump", y.told(0, 4), 1);
    }

    private static void driveAtEdges() {
        FootOnTheOtherPedal x = new FootOnTheOtherPedal();
        x.learner(0, 0);
        x.set(10, 0, 98);
        DUE.is("9: 99 at most", x.drive(0, 0, 2), 99);
        DUE.is("9: 99 at most", x.drive(0, 0, 0), 99);
        x.set(4, 0, 998);
        x.drive(0, 1, 0);
        DUE.is("9: bumps", x.told(0, 4), 999);
        x.drive(0, 1, 1);
        DUE.is("9: 999 at most", x.told(0, 4), 999);
        x.set(3, 0, 98);
        x.drive(0, 1, 2);
        DUE.is("9: done", x.told(0, 3), 99);
        x.drive(0, 1, 2);
        DUE.is("9: 99 at most", x.told(0, 3), 99);
        x.set(14, 0, 60);
        DUE.is("9: nothing is learnt below 0", x.drive(0, 4, 0), 60);
    }

    private static void driveRefuses() {
        FootOnTheOtherPedal x = new FootOnTheOtherPedal();
        x.learner(0, 0);
        int[][] bad = {{1, 0, 0}, {-1, 0, 0}, {0, 8, 0}, {0, -1, 0}, {0, 0, 3}, {0, 0, -1}};
        for (int[] call : bad) {
            DUE.is("9: drive" + java.util.Arrays.toString(call), x.drive(call[0], call[1], call[2]), BAD);
        }
        DUE.is("9: refused: nothing is done", x.told(0, 3) + x.told(0, 4) + x.told(0, 10), 0);
    }

    private static void nights() {
        FootOnTheOtherPedal x = new FootOnTheOtherPedal();
        int[] after = {49, 49, 48, 48, 48};
        for (int kind = 0; kind < 5; kind++) {
            x.learner(kind, 7);
            for (int street = 0; street < 8; street++) {
                x.set(10 + street, kind, street == 7 ? 1 : 50);
            }
            x.set(3, kind, 3);
            x.set(4, kind, 5);
        }
        x.set(1, 7, 0);
        DUE.is("10: SHY isn't up to street 7", x.night(), 5);
        for (int kind = 0; kind < 5; kind++) {
            DUE.is("10: skill of " + kind, x.told(kind, 10), after[kind]);
            DUE.is("10: skill of " + kind, x.told(kind, 16), after[kind]);
            DUE.is("10: 0 at least", x.told(kind, 17), 0);
            DUE.is("10: done", x.told(kind, 3), 0);
            DUE.is("10: bumps stay", x.told(kind, 4), 5);
        }
        DUE.is("10: day", x.told(0, 0), 1);
        x.set(1, 3, 54);
        DUE.is("10: BOLD, RACER are ready", x.night(), 2);
        DUE.is("10: day", x.told(0, 0), 2);
        FootOnTheOtherPedal y = new FootOnTheOtherPedal();
        y.learner(5, 6);
        y.set(10, 0, 50);
        y.set(11, 0, 6);
        y.night();
        DUE.is("10: OLD forgets", y.told(0, 10), 43);
        DUE.is("10: OLD forgets all", y.told(0, 11), 0);
    }

    private static void nightByWhatIsAhead() {
        FootOnTheOtherPedal x = Due.ruled("teaches 0; fades done + day * 10; nerves done * 99 + day * 3;");
        x.learner(0, 0);
        x.learner(0, 0);
        for (int street = 0; street < 8; street++) {
            x.set(10 + street, 0, 40);
            x.set(10 + street, 1, 29);
        }
        x.set(3, 0, 7);
        x.set(0, 0, 2);
        DUE.is("10: ready by the day then", x.night(), 0);
        DUE.is("10: done, day ahead", x.told(0, 10), 13);
        DUE.is("10: done, day ahead", x.told(1, 17), 9);
        FootOnTheOtherPedal y = Due.ruled("teaches 0; fades hard - skill; nerves day * 30;");
        y.learner(0, 0);
        y.set(10, 0, 20);
        y.set(11, 0, 29);
        y.set(12, 0, 40);
        DUE.is("10: ready by the day then", y.night(), 1);
        DUE.is("10: by skill there", y.told(0, 10), 10);
        DUE.is("10: by skill there", y.told(0, 11), 28);
        DUE.is("10: by skill there", y.told(0, 12), 40);
    }

    private static void nightIsRefused() {
        FootOnTheOtherPedal x = new FootOnTheOtherPedal();
        x.set(0, 0, 998);
        DUE.is("10: none here", x.night(), 0);
        DUE.is("10: the last day", x.told(0, 0), 999);
        x.learner(0, 0);
        x.set(10, 0, 50);
        x.set(3, 0, 5);
        DUE.is("10: no more", x.night(), STATE);
        DUE.is("10: refused: day", x.told(0, 0), 999);
        DUE.is("10: refused: skill", x.told(0, 10), 50);
        DUE.is("10: refused: done", x.told(0, 3), 5);
    }
}
