import java.util.Random;

/** All promises: long runs of drawn calls, the answers of the class beside those of Model. The seeds are fixed. */
public final class ModelTest {
    private static final int RUNS = 400, CALLS = 512;
    private static final int[] EDGES = {Integer.MIN_VALUE, Integer.MIN_VALUE + 1, -1000, -13, -2, -1, 0, 1, 2, 3, 4,
        5, 6, 7, 8, 9, 10, 17, 18, 27, 28, 39, 40, 41, 72, 79, 80, 99, 100, 159, 160, 161, 254, 255, 256, 257, 998,
        999, 1000, 32767, 32768, 65536, Integer.MAX_VALUE - 1, Integer.MAX_VALUE};
    private static final String[] PIECES = {"skill", "hard", "help", "number", "day", "done", "teaches", "fades",
        "nerves", "or", "and", "not", "not", "(", "(", ")", ")", ";", "+", "-", "-", "*", "<", "=", "0", "1", "2", "7",
        "30", "99", "0012", "9999", "12345", "x", "Skill", "%", "\t", " ", "\n"};

    private final Random random;
    private final FootOnTheOtherPedal x = new FootOnTheOtherPedal();
    private final Model m = new Model();
    private final String run;
    private final Due due;

    private ModelTest(int seed, Due due) {
        random = new Random(seed);
        run = "seed " + seed + ": ";
        this.due = due;
    }

    public static void main(String[] args) {
        Due due = new Due();
        for (int seed = 0; seed < RUNS; seed++) {
            new ModelTest(seed, due).goes();
        }
        due.end();
    }

    private void goes() {
        int calls = 0;
        while (calls < CALLS) {
            if (random.nextInt(12) == 0 && calls + 165 < CALLS) {
                calls += tape();
            } else {
                call(random.nextInt(27));
                calls++;
            }
        }
    }

    /** Mostly one of the numbers below most, at times one far outside. */
    private int upTo(int most) {
        return random.nextInt(25) == 0 ? EDGES[random.nextInt(EDGES.length)] : random.nextInt(most + 1);
    }

    private int one() {
        return random.nextInt(30) == 0 ? upTo(5) : random.nextInt(Math.max(1, m.count(0)));
    }

    private int streetHelp() {
        return random.nextInt(20) == 0 ? upTo(90) : 10 * random.nextInt(8) + random.nextInt(3);
    }

    private int tape() {
        String text = random.nextInt(3) == 0 ? anyPieces() : whole();
        if (random.nextInt(3) == 0 && !text.isEmpty()) {
            int at = random.nextInt(text.length());
            String other = PIECES[random.nextInt(PIECES.length)];
            text = text.substring(0, at) + other + text.substring(at + random.nextInt(text.length() - at));
        }
        text = text.length() > 160 ? text.substring(0, 160) : text;
        for (int k = 0; k < text.length(); k++) {
            due.is(run + "feed(" + (int) text.charAt(k) + ")", x.feed(text.charAt(k)), m.feed(text.charAt(k)));
        }
        due.is(run + "text() of " + text, x.text(), m.text());
        int rule = random.nextInt(Math.max(1, m.count(4)));
        due.is(run + "force(" + rule + ")", x.force(rule), m.force(rule));
        return text.length() + 2;
    }

    private String anyPieces() {
        StringBuilder text = new StringBuilder("teaches ");
        for (int k = random.nextInt(20); k > 0; k--) {
            text.append(PIECES[random.nextInt(PIECES.length)]).append(random.nextInt(3) == 0 ? "" : " ");
        }
        return text.toString();
    }

    private String whole() {
        return "teaches " + e(3) + ";fades " + e(2) + " ;\nnerves " + e(2) + "; ";
    }

    private String e(int deep) {
        String[] joints = {" or ", " and ", "<", "=", "+", "-", "*", " + ", " - ", "+", "-"};
        int sort = random.nextInt(deep <= 0 ? 3 : 8);
        if (sort < 2) {
            return PIECES[random.nextInt(6)];
        }
        if (sort == 2) {
            return Integer.toString(random.nextInt(random.nextInt(3) == 0 ? 3000 : 20));
        }
        if (sort == 3) {
            return "(" + e(deep - 1) + ")";
        }
        if (sort == 4) {
            return random.nextBoolean() ? "-" + e(deep - 1) : "(not " + e(deep - 1) + ")";
        }
        return e(deep - 1) + joints[random.nextInt(joints.length)] + e(deep - 1);
    }

    private void same(String call, long got, long want, int... args) {
        StringBuilder told = new StringBuilder(run).append(call).append(java.util.Arrays.toString(args));
        due.is(told.toString(), got, want);
    }

    private void call(int which) {
        int one = one();
        int a = upTo(8);
        int b = upTo(3);
        int seed = random.nextInt();
        if (which < 10) {
            learning(which, one, a, b);
        } else if (which < 19) {
            asking(which, one, a, b, seed);
        } else {
            hosting(which, one, a, b);
        }
    }

    private void learning(int which, int one, int a, int b) {
        int what;
        int v;
        switch (which) {
            case 0, 1 -> {
                what = random.nextInt(3) == 0 ? upTo(18) : 10 + random.nextInt(8);
                v = upTo(random.nextInt(4) == 0 ? 999 : 60);
                same("set", x.set(what, one, v), m.set(what, one, v), what, one, v);
            }
            case 2 -> {
                v = upTo(99);
                same("set", x.set(1, a, v), m.set(1, a, v), 1, a, v);
            }
            case 3 -> {
                v = upTo(9);
                same("learner", x.learner(b + a % 3, v), m.learner(b + a % 3, v), b + a % 3, v);
            }
            case 4 -> {
                what = upTo(28);
                same("told", x.told(one, what), m.told(one, what), one, what);
            }
            case 5 -> same("asks", x.asks(one, a, b), m.asks(one, a, b), one, a, b);
            case 6 -> same("asks", x.asks(one, a, b + 2), m.asks(one, a, b + 2), one, a, b + 2);
            case 7, 8 -> same("drive", x.drive(one, a, b), m.drive(one, a, b), one, a, b);
            default -> same("night", x.night(), m.night());
        }
    }

    private void asking(int which, int one, int a, int b, int seed) {
        int what = upTo(2);
        int n;
        switch (which) {
            case 10 -> same("best", x.best(one, what), m.best(one, what), one, what);
            case 11 -> {
                if (random.nextInt(4) == 0) {
                    int help = upTo(2);
                    same("hours", x.hours(one, b, help, what), m.hours(one, b, help, what), one, b, help, what);
                }
            }
            case 12 -> same("takes", x.takes(one, b, a + 1), m.takes(one, b, a + 1), one, b, a + 1);
            case 13 -> same("late", x.late(one, a), m.late(one, a), one, a);
            case 14 -> same("gap", x.gap(one, what), m.gap(one, what), one, what);
            case 15 -> {
                n = upTo(42);
                same("faded", x.faded(one, n), m.faded(one, n), one, n);
            }
            case 16 -> {
                n = upTo(256);
                same("test", x.test(one, n, b), m.test(one, n, b), one, n, b);
            }
            case 17 -> same("drawn", x.drawn(seed, one), m.drawn(seed, one), seed, one);
            default -> {
                n = upTo(21);
                same("chance", x.chance(seed, n, one, what), m.chance(seed, n, one, what), seed, n, one, what);
            }
        }
    }

    private void hosting(int which, int one, int a, int b) {
        int what = upTo(9);
        int streetHelp = streetHelp();
        int n = upTo(random.nextInt(3) == 0 ? 41 : 4);
        int v = upTo(random.nextInt(5) == 0 ? 9999 : 9);
        switch (which) {
            case 19, 20 -> same("tells", x.tells(b, one, streetHelp, what), m.tells(b, one, streetHelp, what),
                b, one, streetHelp, what);
            case 21 -> {
                same("film", x.film(b, one, streetHelp, n), m.film(b, one, streetHelp, n), b, one, streetHelp, n);
                for (int w = 0; w < 9; w++) {
                    same("tells", x.tells(b, one, streetHelp, w), m.tells(b, one, streetHelp, w),
                        b, one, streetHelp, w);
                }
            }
            case 22 -> {
                same("count", x.count(what), m.count(what), what);
                if (random.nextInt(3) == 0) {
                    same("image", x.image(), m.image());
                } else if (random.nextInt(3) == 0) {
                    same("back", x.back(), m.back());
                }
            }
            case 23 -> {
                int sort = upTo(3) - 1;
                same("sheet", x.sheet(b, sort, n), m.sheet(b, sort, n), b, sort, n);
            }
            case 24 -> same("cell", x.cell(b, n, v), m.cell(b, n, v), b, n, v);
            case 25 -> {
                int other = upTo(4);
                int size = upTo(4);
                same("copy", x.copy(b, n, other, a, size), m.copy(b, n, other, a, size), b, n, other, a, size);
            }
            default -> {
                int sort = upTo(2);
                int size = upTo(5);
                same("learners", x.learners(b, sort, n, size), m.learners(b, sort, n, size), b, sort, n, size);
                same("taken", x.taken(one, a), m.taken(one, a), one, a);
            }
        }
    }
}
