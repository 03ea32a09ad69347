import java.util.Arrays;

/** Promises 2 to 29: each call that is refused: its answer, and that all is behind it as it was ahead. */
public final class RefusalTest {
    private interface Call {
        long of(FootOnTheOtherPedal x, int[] a);
    }

    private static final int NONE = FootOnTheOtherPedal.NONE, BAD = FootOnTheOtherPedal.BAD;
    private static final int STATE = FootOnTheOtherPedal.STATE, FULL = FootOnTheOtherPedal.FULL;
    private static final long NO = FootOnTheOtherPedal.NO;
    private static final int LOW = Integer.MIN_VALUE, HIGH = Integer.MAX_VALUE;
    private static final Due DUE = new Due();
    private static final String FRESH = Seen.of(FootOnTheOtherPedal::new);
    private static final String BUSY = Seen.of(RefusalTest::busy);
    private static final String PACKED = Seen.of(RefusalTest::packed);

    public static void main(String[] args) {
        setIsRefused();
        learnerIsRefused();
        toldIsRefused();
        asksIsRefused();
        feedIsRefused();
        textIsRefused();
        forceIsRefused();
        driveIsRefused();
        nightIsRefused();
        bestIsRefused();
        hoursIsRefused();
        takesIsRefused();
        lateIsRefused();
        gapIsRefused();
        fadedIsRefused();
        testIsRefused();
        tellsIsRefused();
        filmIsRefused();
        drawnIsRefused();
        chanceIsRefused();
        backIsRefused();
        countIsRefused();
        sheetIsRefused();
        cellIsRefused();
        copyIsRefused();
        learnersIsRefused();
        takenIsRefused();
        whatIsOnlyAskedChangesNothing();
        DUE.end();
    }

    /** Three learners, three texts, a tape, three sheets, and an image that is not like what is. */
    private static FootOnTheOtherPedal busy() {
        FootOnTheOtherPedal x = new FootOnTheOtherPedal();
        Due.text(x, "teaches 0; fades 0; nerves 0;");
        Due.text(x, "teaches 9 + help; fades 2; nerves day;");
        x.learner(4, 3);
        x.learner(1, 7);
        x.set(10, 1, 61);
        x.image();
        x.learner(5, 2);
        for (int street = 0; street < 8; street++) {
            x.set(1, street, 20 + street);
            x.set(10 + street, 0, 3 * street);
            x.set(10 + street, 2, 90 - street);
        }
        x.set(3, 0, 2);
        x.set(4, 0, 5);
        x.set(4, 1, 8);
        x.set(0, 0, 6);
        x.force(2);
        Due.row(x, 0, 0, 1, 2, 3, 4, 5);
        Due.row(x, 1, 1, 11, 12, 13, 14);
        Due.row(x, 2, 2, 21, 22, 23);
        Due.feed(x, "teaches 3; fades 2; nerves 1;");
        return x;
    }

    /** No learner, no text, no byte, no day more has room. */
    private static FootOnTheOtherPedal packed() {
        FootOnTheOtherPedal x = new FootOnTheOtherPedal();
        for (int k = 1; k < 6; k++) {
            Due.text(x, "teaches " + (k - 1) + ";fades 1;nerves 9;");
            x.learner(k, k);
        }
        x.set(0, 0, 999);
        x.set(13, 4, 50);
        x.set(3, 4, 99);
        x.set(4, 4, 999);
        Due.row(x, 3, 2, 0, 0, 1, 1);
        Due.feed(x, "ab".repeat(80));
        return x;
    }

    private static void refused(int promise, long want, Call call, int[]... all) {
        for (int[] a : all) {
            is(promise, "a busy object", BUSY, RefusalTest::busy, want, call, a);
        }
    }

    private static void refusedFresh(int promise, long want, Call call, int[]... all) {
        for (int[] a : all) {
            is(promise, "a new object", FRESH, FootOnTheOtherPedal::new, want, call, a);
        }
    }

    private static void refusedPacked(int promise, long want, Call call, int[]... all) {
        for (int[] a : all) {
            is(promise, "a full object", PACKED, RefusalTest::packed, want, call, a);
        }
    }

    private static void is(int promise, String on, String seen, Seen.Making making, long want, Call call, int[] a) {
        String name = promise + ": " + Arrays.toString(a) + " on " + on;
        DUE.is(name, call.of(making.make(), a), want);
        String behind = Seen.of(() -> {
            FootOnTheOtherPedal x = making.make();
            call.of(x, a);
            return x;
        });
        DUE.holds(name + " changes nothing", behind.equals(seen));
    }

    /** The numbers that are none of 0 .. most. */
    private static int[] outside(int most) {
        return new int[] {-1, most + 1, LOW, HIGH};
    }

    /** Calls that are right but for one number, which is none of 0 .. most. */
    private static int[][] with(int[] right, int place, int most) {
        int[] wrong = outside(most);
        int[][] all = new int[wrong.length][];
        for (int k = 0; k < wrong.length; k++) {
            all[k] = right.clone();
            all[k][place] = wrong[k];
        }
        return all;
    }

    private static int[] a(int... numbers) {
        return numbers;
    }

    private static void setIsRefused() {
        Call call = (x, a) -> x.set(a[0], a[1], a[2]);
        refused(2, BAD, call, with(a(0, 0, 0), 2, 999));
        refused(2, BAD, call, with(a(1, 0, 0), 1, 7));
        refused(2, BAD, call, with(a(1, 0, 0), 2, 99));
        int[][] learners = {{2, 9}, {3, 99}, {4, 999}, {10, 99}, {17, 99}};
        for (int[] what : learners) {
            refused(2, BAD, call, with(a(what[0], 0, 0), 1, 2));
            refused(2, BAD, call, with(a(what[0], 0, 0), 2, what[1]));
            refusedFresh(2, BAD, call, a(what[0], 0, 0));
        }
        refused(2, BAD, call, with(a(0, 0, 0), 0, 17));
        refused(2, BAD, call, a(5, 0, 0), a(6, 0, 0), a(7, 0, 0), a(8, 0, 0), a(9, 0, 0), a(20, 0, 0), a(27, 0, 0));
    }

    private static void learnerIsRefused() {
        Call call = (x, a) -> x.learner(a[0], a[1]);
        refused(3, BAD, call, with(a(0, 0), 0, 5));
        refused(3, BAD, call, with(a(0, 0), 1, 9));
        refusedFresh(3, BAD, call, a(6, 0), a(0, 10));
        refusedPacked(3, FULL, call, a(0, 0), a(5, 9));
        // BAD is named ahead of FULL.
        refusedPacked(3, BAD, call, a(6, 0), a(0, 10), a(-1, 0), a(0, -1));
    }

    private static void toldIsRefused() {
        Call call = (x, a) -> x.told(a[0], a[1]);
        int[] whats = {2, 3, 4, 5, 6, 7, 10, 17, 20, 27};
        for (int what : whats) {
            refused(4, BAD, call, with(a(0, what), 0, 2));
            refusedFresh(4, BAD, call, a(0, what));
        }
        refused(4, BAD, call, with(a(0, 1), 0, 7));
        refused(4, BAD, call, with(a(0, 0), 1, 27));
        refused(4, BAD, call, a(0, 8), a(0, 9), a(0, 18), a(0, 19));
    }

    private static void asksIsRefused() {
        Call call = (x, a) -> x.asks(a[0], a[1], a[2]);
        refused(5, -1000, call, with(a(0, 0, 0), 0, 2));
        refused(5, -1000, call, with(a(0, 0, 0), 1, 7));
        refused(5, -1000, call, with(a(0, 0, 0), 2, 4));
        refusedFresh(5, -1000, call, a(0, 0, 0));
    }

    private static void feedIsRefused() {
        Call call = (x, a) -> x.feed(a[0]);
        refused(6, BAD, call, with(a(0), 0, 255));
        refusedFresh(6, BAD, call, with(a(0), 0, 255));
        refusedPacked(6, FULL, call, a(0), a('a'), a(255));
        // BAD is named ahead of FULL.
        refusedPacked(6, BAD, call, with(a(0), 0, 255));
    }

    private static void textIsRefused() {
        Call call = (x, a) -> x.text();
        refusedPacked(7, FULL, call, a());
        // FULL is ahead of all: of a FAULT, as the TAPE there has one, and of an empty TAPE, too.
        FootOnTheOtherPedal x = new FootOnTheOtherPedal();
        for (int k = 1; k < 6; k++) {
            Due.text(x, "teaches 1; fades 1; nerves 1;");
        }
        DUE.is("7: full, and an empty tape", x.text(), FULL);
        Due.feed(x, "teaches 2; fades 1; nerves 1;");
        DUE.is("7: full, and a whole text", x.text(), FULL);
        DUE.is("7: the tape stays", x.count(5), 29);
        DUE.is("7: texts", x.count(4), 6);
    }

    private static void forceIsRefused() {
        Call call = (x, a) -> x.force(a[0]);
        refused(8, BAD, call, with(a(0), 0, 2));
        refusedFresh(8, BAD, call, with(a(0), 0, 0));
        refusedPacked(8, BAD, call, with(a(0), 0, 5));
    }

    private static void driveIsRefused() {
        Call call = (x, a) -> x.drive(a[0], a[1], a[2]);
        refused(9, BAD, call, with(a(0, 0, 0), 0, 2));
        refused(9, BAD, call, with(a(0, 0, 0), 1, 7));
        refused(9, BAD, call, with(a(0, 0, 0), 2, 2));
        refusedFresh(9, BAD, call, a(0, 0, 0));
    }

    private static void nightIsRefused() {
        refusedPacked(10, STATE, (x, a) -> x.night(), a());
    }

    private static void bestIsRefused() {
        Call call = (x, a) -> x.best(a[0], a[1]);
        refused(11, BAD, call, with(a(0, 0), 0, 2));
        refused(11, BAD, call, with(a(0, 0), 1, 1));
        refusedFresh(11, BAD, call, a(0, 0));
    }

    private static void hoursIsRefused() {
        Call call = (x, a) -> x.hours(a[0], a[1], a[2], a[3]);
        refused(12, BAD, call, with(a(0, 1, 0, 0), 0, 2));
        refused(12, BAD, call, with(a(0, 0, 0, 0), 1, 3));
        refused(12, BAD, call, with(a(0, 1, 0, 0), 2, 2));
        refused(12, BAD, call, with(a(0, 1, 0, 0), 3, 2));
        // Also where there is no HOUR that HELP could be with.
        refused(12, BAD, call, a(0, 0, 3, 0), a(0, 0, 0, 3));
        refusedFresh(12, BAD, call, a(0, 0, 0, 0));
    }

    private static void takesIsRefused() {
        Call call = (x, a) -> x.takes(a[0], a[1], a[2]);
        refused(13, BAD, call, with(a(0, 0, 1), 0, 2));
        refused(13, BAD, call, with(a(0, 0, 1), 1, 2));
        refused(13, BAD, call, with(a(0, 0, 1), 2, 9));
        refused(13, BAD, call, a(0, 0, 0));
        refusedFresh(13, BAD, call, a(0, 0, 1));
        FootOnTheOtherPedal x = busy();
        x.set(0, 0, 99);
        DUE.is("13: ready now", x.takes(2, 0, 1), 0);
        DUE.is("13: BAD also of one that is ready", x.takes(2, 0, 0), BAD);
        DUE.is("13: BAD also of one that is ready", x.takes(2, 3, 1), BAD);
    }

    private static void lateIsRefused() {
        Call call = (x, a) -> x.late(a[0], a[1]);
        refused(14, BAD, call, with(a(0, 0), 0, 2));
        refused(14, BAD, call, with(a(0, 0), 1, 7));
        refusedFresh(14, BAD, call, a(0, 0));
    }

    private static void gapIsRefused() {
        Call call = (x, a) -> x.gap(a[0], a[1]);
        refused(15, -1000, call, with(a(0, 0), 0, 2));
        refused(15, -1000, call, with(a(0, 0), 1, 1));
        refusedFresh(15, -1000, call, a(0, 0));
    }

    private static void fadedIsRefused() {
        Call call = (x, a) -> x.faded(a[0], a[1]);
        refused(16, BAD, call, with(a(0, 0), 0, 2));
        refused(16, BAD, call, with(a(0, 0), 1, 40));
        refusedFresh(16, BAD, call, a(0, 0));
    }

    private static void testIsRefused() {
        Call call = (x, a) -> x.test(a[0], a[1], a[2]);
        refused(17, NO, call, with(a(0, 0, 0), 0, 2));
        refused(17, NO, call, with(a(0, 0, 0), 1, 255));
        refused(17, NO, call, with(a(0, 0, 0), 2, 1));
        refusedFresh(17, NO, call, a(0, 0, 0), a(0, 0, 1));
    }

    /** HELP 3 .. 9 is none, STREET 8 is none; -1 .. -9 by 10 would be STREET 0. */
    private static int[][] withStreetHelp(int[] right) {
        int[] wrong = {-1, -2, -9, -10, 3, 9, 13, 19, 73, 79, 80, 82, 90, 100, LOW, HIGH};
        int[][] all = new int[wrong.length][];
        for (int k = 0; k < wrong.length; k++) {
            all[k] = right.clone();
            all[k][2] = wrong[k];
        }
        return all;
    }

    private static void tellsIsRefused() {
        Call call = (x, a) -> x.tells(a[0], a[1], a[2], a[3]);
        refused(18, BAD, call, with(a(0, 0, 0, 0), 0, 3));
        refused(18, BAD, call, with(a(0, 0, 0, 0), 1, 2));
        refused(18, BAD, call, with(a(0, 0, 0, 0), 3, 8));
        refused(18, BAD, call, withStreetHelp(a(0, 0, 0, 0)));
        for (int what = 0; what < 9; what++) {
            refused(18, -11, call, a(3, 0, 0, what), a(3, 2, 72, what));
        }
        // BAD is named ahead of -11.
        refused(18, BAD, call, a(4, 0, 0, 0), a(3, 3, 0, 0), a(3, 0, 3, 0), a(3, 0, 0, 9));
        refusedFresh(18, BAD, call, a(0, 0, 0, 0));
    }

    private static void filmIsRefused() {
        Call call = (x, a) -> x.film(a[0], a[1], a[2], a[3]);
        for (int sheet = 0; sheet < 4; sheet++) {
            refused(19, BAD, call, with(a(sheet, 0, 0, 1), 0, 3));
            refused(19, BAD, call, with(a(sheet, 0, 0, 1), 1, 2));
            refused(19, BAD, call, with(a(sheet, 0, 0, 1), 3, 40));
            refused(19, BAD, call, withStreetHelp(a(sheet, 0, 0, 1)));
        }
        refusedFresh(19, BAD, call, a(0, 0, 0, 0));
    }

    private static void drawnIsRefused() {
        Call call = (x, a) -> x.drawn(a[0], a[1]);
        refused(20, BAD, call, with(a(1, 0), 1, 2));
        refusedFresh(20, BAD, call, a(0, 0));
    }

    private static void chanceIsRefused() {
        Call call = (x, a) -> x.chance(a[0], a[1], a[2], a[3]);
        refused(21, NO, call, with(a(1, 1, 0, 0), 1, 20));
        refused(21, NO, call, with(a(1, 1, 0, 0), 2, 2));
        refused(21, NO, call, with(a(1, 1, 0, 0), 3, 1));
        refused(21, NO, call, a(1, 0, 0, 0), a(1, 0, 0, 1));
        refusedFresh(21, NO, call, a(0, 1, 0, 0));
    }

    private static void backIsRefused() {
        refusedFresh(23, STATE, (x, a) -> x.back(), a());
        refusedPacked(23, STATE, (x, a) -> x.back(), a());
    }

    private static void countIsRefused() {
        refused(24, BAD, (x, a) -> x.count(a[0]), with(a(0), 0, 6));
        refusedFresh(24, BAD, (x, a) -> x.count(a[0]), with(a(0), 0, 6));
    }

    private static void sheetIsRefused() {
        Call call = (x, a) -> x.sheet(a[0], a[1], a[2]);
        for (int sheet = 0; sheet < 4; sheet++) {
            refused(25, BAD, call, a(sheet, -2, 1), a(sheet, 3, 1), a(sheet, LOW, 1), a(sheet, HIGH, 1));
            refused(25, BAD, call, a(sheet, 0, 41), a(sheet, 1, 41), a(sheet, 2, 41), a(sheet, 0, HIGH));
            refused(25, -14, call, a(sheet, 0, -1), a(sheet, 1, -1), a(sheet, 2, -1), a(sheet, 0, LOW));
        }
        refused(25, BAD, call, with(a(0, 0, 1), 0, 3));
        // BAD is named ahead of -14; there is no such SHEET, though its n would not matter.
        refused(25, BAD, call, a(4, 0, -1), a(-1, 0, -1), a(0, 3, -1), a(0, -2, -1), a(4, -1, 0), a(-1, -1, 0));
    }

    private static void cellIsRefused() {
        Call call = (x, a) -> x.cell(a[0], a[1], a[2]);
        refused(26, BAD, call, with(a(0, 0, 9), 0, 3));
        refused(26, -11, call, a(3, 0, 9), a(3, 39, 9));
        refused(26, -12, call, with(a(0, 0, 9), 1, 4));
        refused(26, -12, call, with(a(1, 0, 9), 1, 3));
        refused(26, -12, call, with(a(2, 0, 9), 1, 2));
        refused(26, -12, call, a(0, 39, 9), a(0, 40, 9));
        // BAD is named ahead of -11, that ahead of -12.
        refused(26, BAD, call, a(4, -1, 9));
        refused(26, -11, call, a(3, -1, 9), a(3, 40, 9), a(3, LOW, 9), a(3, HIGH, 9));
    }

    private static void copyIsRefused() {
        Call call = (x, a) -> x.copy(a[0], a[1], a[2], a[3], a[4]);
        refused(27, BAD, call, with(a(0, 0, 0, 1, 1), 0, 3));
        refused(27, BAD, call, with(a(0, 0, 0, 1, 1), 2, 3));
        refused(27, -11, call, a(3, 0, 0, 0, 1), a(0, 0, 3, 0, 1), a(3, 0, 3, 0, 1), a(3, 0, 3, 0, 0));
        refused(27, -13, call, a(0, 0, 1, 0, 1), a(1, 0, 0, 0, 1), a(1, 0, 2, 0, 1), a(2, 0, 0, 0, 0));
        refused(27, -12, call, with(a(0, 0, 0, 1, 1), 1, 4));
        refused(27, -12, call, with(a(0, 0, 0, 1, 1), 3, 4));
        refused(27, -12, call, a(0, 0, 0, 1, -1), a(0, 0, 0, 1, LOW), a(0, 0, 0, 1, HIGH), a(0, 5, 0, 0, -1));
        refused(27, -12, call, a(0, 0, 0, 1, 5), a(0, 1, 0, 0, 5), a(0, 0, 0, 0, 6), a(0, 4, 0, 0, 2), a(0, 0, 0, 4, 2));
        // What would be added to such places may wrap around.
        refused(27, -12, call, a(0, HIGH, 0, 0, HIGH), a(0, 0, 0, HIGH, HIGH), a(0, LOW, 0, 0, LOW), a(0, 1, 0, 0, HIGH));
        // BAD is named ahead of -11, that ahead of -13, that ahead of -12.
        refused(27, BAD, call, a(4, 0, 3, 0, 1), a(3, 0, 4, 0, 1), a(4, -1, 0, 0, -1));
        refused(27, -11, call, a(3, -1, 0, 9, -1), a(0, 9, 3, -1, -1));
        refused(27, -13, call, a(0, -1, 1, 0, 1), a(0, 0, 1, 9, 1), a(0, 0, 1, 0, -1));
    }

    private static void learnersIsRefused() {
        Call call = (x, a) -> x.learners(a[0], a[1], a[2], a[3]);
        refused(28, BAD, call, with(a(0, 0, 0, 1), 0, 3));
        refused(28, BAD, call, with(a(0, 0, 0, 1), 1, 2));
        refused(28, BAD, call, with(a(0, 0, 0, 1), 3, 5));
        refused(28, -13, call, a(0, 1, 0, 1), a(0, 2, 0, 0), a(1, 0, 0, 1), a(2, 1, 0, 1));
        refused(28, -11, call, a(3, 0, 0, 1), a(3, 1, 0, 1), a(3, 2, 0, 0));
        refused(28, -12, call, with(a(0, 0, 0, 1), 2, 3));
        refused(28, -12, call, a(0, 0, 4, 1), a(0, 0, HIGH - 1, 1), a(0, 0, HIGH - 2, 2));
        // BAD is named ahead of the others, -13 and -11 ahead of -12.
        refused(28, BAD, call, a(4, 0, -1, 1), a(3, 3, 0, 1), a(0, 1, 0, 6), a(3, 0, -1, -1));
        refused(28, -13, call, a(0, 1, -1, 1), a(0, 2, 5, 5));
        refused(28, -11, call, a(3, 0, -1, 1), a(3, 0, HIGH, 5));
        // Full: the others are left out, so that is no refusal of its own.
        refusedPacked(28, 0, call, a(3, 2, 0, 2));
        refusedPacked(28, -12, call, a(3, 2, 0, 3), a(3, 2, -1, 1));
    }

    private static void takenIsRefused() {
        Call call = (x, a) -> x.taken(a[0], a[1]);
        refused(29, BAD, call, with(a(0, 0), 1, 5));
        refused(29, -11, call, with(a(0, 0), 0, 2));
        refused(29, -13, call, a(0, 1), a(0, 3), a(0, 5), a(1, 2), a(1, 3), a(2, 1), a(2, 4));
        // BAD is named ahead of -11.
        refused(29, BAD, call, a(3, 6), a(-1, -1));
        refusedFresh(29, -11, call, a(0, 0));
        refusedFresh(29, BAD, call, a(0, 6));
    }

    private static void unchanged(int promise, Call call, int[] a) {
        String behind = Seen.of(() -> {
            FootOnTheOtherPedal x = busy();
            call.of(x, a);
            return x;
        });
        DUE.holds(promise + ": asked " + Arrays.toString(a) + ", all is as it was", behind.equals(BUSY));
    }

    private static void whatIsOnlyAskedChangesNothing() {
        for (int one = 0; one < 3; one++) {
            for (int help = 0; help < 3; help++) {
                unchanged(11, (x, a) -> x.best(a[0], a[1]), a(one, help % 2));
                unchanged(12, (x, a) -> x.hours(a[0], a[1], a[2], a[3]), a(one, help + 1, help, help));
                unchanged(13, (x, a) -> x.takes(a[0], a[1], a[2]), a(one, help, 9));
                unchanged(14, (x, a) -> x.late(a[0], a[1]), a(one, help));
                unchanged(16, (x, a) -> x.faded(a[0], a[1]), a(one, 20 * help));
                unchanged(20, (x, a) -> x.drawn(a[1], a[0]), a(one, help));
            }
            for (int what = 0; what < 9; what++) {
                unchanged(18, (x, a) -> x.tells(0, a[0], 1, a[1]), a(one, what));
            }
            unchanged(15, (x, a) -> x.gap(a[0], 0), a(one));
            unchanged(17, (x, a) -> x.test(a[0], 255, 0), a(one));
            unchanged(21, (x, a) -> x.chance(HIGH, 20, a[0], 0), a(one));
            unchanged(29, (x, a) -> x.taken(a[0], 0), a(one));
        }
        unchanged(24, (x, a) -> x.count(2) + x.count(3), a());
        unchanged(8, (x, a) -> x.force(2), a());
        unchanged(2, (x, a) -> x.set(0, NONE, 6), a());
    }
}
