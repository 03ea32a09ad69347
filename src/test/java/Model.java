import java.util.ArrayList;
import java.util.Arrays;
import java.util.List;
import java.util.function.ToIntFunction;

/**
 * The document a second time, written another way (trees, copies, exceptions, kinds under kinds), so that
 * ModelTest can set the answers of both side by side.
 */
final class Model {
    static final int NONE = -1, BAD = -2, STATE = -3, FULL = -4;
    static final long NO = -4611686018427387904L;

    // ---- kinds

    static class Plain {
        int learns(One o, int p, int v) {
            return v;
        }
        int forgets(One o, int v) {
            return v;
        }
        int nerve(One o, int v) {
            return v;
        }
    }

    static class Bold extends Plain {
        @Override int learns(One o, int p, int v) {
            return p == 0 ? super.learns(o, p, v) * 2 : super.learns(o, p, v);
        }
        @Override int nerve(One o, int v) {
            return super.nerve(o, v) + 5;
        }
    }

    static class Shy extends Plain {
        @Override int learns(One o, int p, int v) {
            return p == 0 ? super.learns(o, p, v) / 2 : super.learns(o, p, v);
        }
        @Override int forgets(One o, int v) {
            return super.forgets(o, v) + 1;
        }
        @Override int nerve(One o, int v) {
            return super.nerve(o, v) - 5;
        }
    }

    static class Racer extends Bold {
        @Override int learns(One o, int p, int v) {
            return p == 2 ? 0 : super.learns(o, p, v);
        }
        @Override int forgets(One o, int v) {
            return 2 * super.forgets(o, v);
        }
        @Override int nerve(One o, int v) {
            return super.nerve(o, v) + o.number;
        }
    }

    static class Held extends Shy {
        @Override int learns(One o, int p, int v) {
            return p == 1 ? super.learns(o, p, v) + o.number : super.learns(o, p, v);
        }
        @Override int nerve(One o, int v) {
            return o.done > 1 ? 0 : super.nerve(o, v);
        }
    }

    static class Old extends Plain {
        @Override int learns(One o, int p, int v) {
            return super.learns(o, p, v) > 3 ? 3 : super.learns(o, p, v);
        }
        @Override int forgets(One o, int v) {
            return super.forgets(o, v) + o.number;
        }
        @Override int nerve(One o, int v) {
            return super.nerve(o, v) / 2;
        }
    }

    static final Plain[] KINDS = {new Plain(), new Bold(), new Shy(), new Racer(), new Held(), new Old()};

    static final class One {
        int kind, number, done, bumps;
        int[] skill = new int[8];

        One copy() {
            One o = new One();
            o.kind = kind;
            o.number = number;
            o.done = done;
            o.bumps = bumps;
            o.skill = skill.clone();
            return o;
        }
    }

    // ---- texts

    record Names(int skill, int hard, int help, int number, int day, int done) { }

    static final class Fault extends RuntimeException {
        private static final long serialVersionUID = 1;
        final int place;

        Fault(int place) {
            super(null, null, false, false);
            this.place = place;
        }
    }

    record Token(String what, int place) { }

    static final List<String> WORDS = List.of("skill", "hard", "help", "number", "day", "done",
        "teaches", "fades", "nerves", "or", "and", "not");

    /** Rule texts: E by E as functions of NAMES. */
    static final class Rule {
        private final List<Token> tokens = new ArrayList<>();
        private int next = 0;
        private int open = 0;
        final List<ToIntFunction<Names>> parts = new ArrayList<>();

        Rule(String tape) {
            split(tape);
            for (String key : List.of("teaches", "fades", "nerves")) {
                want(key);
                parts.add(or());
                want(";");
            }
            want("");
        }

        /** A TOKEN that none can be is "?" and stands where it stands: nothing ever wants it. */
        private void split(String tape) {
            int k = 0;
            while (k < tape.length()) {
                char c = tape.charAt(k);
                int from = k++;
                if (c == ' ' || c == '\n') {
                    continue;
                }
                String what = "?";
                if (Character.toString(c).matches("[a-z]")) {
                    while (k < tape.length() && tape.substring(k, k + 1).matches("[a-z]")) {
                        k++;
                    }
                    what = WORDS.contains(tape.substring(from, k)) ? tape.substring(from, k) : "?";
                } else if (Character.toString(c).matches("[0-9]")) {
                    while (k < tape.length() && tape.substring(k, k + 1).matches("[0-9]")) {
                        k++;
                    }
                    what = k - from <= 4 ? tape.substring(from, k) : "?";
                } else if ("();+-*<=".indexOf(c) >= 0) {
                    what = Character.toString(c);
                }
                tokens.add(new Token(what, from));
            }
            tokens.add(new Token("", tape.length()));
        }

        private String now() {
            return tokens.get(next).what();
        }

        private Fault fault() {
            return new Fault(tokens.get(next).place());
        }

        private void want(String what) {
            if (!now().equals(what)) {
                throw fault();
            }
            next++;
        }

        private boolean takes(String what) {
            if (!now().equals(what)) {
                return false;
            }
            next++;
            return true;
        }

        private void opens() {
            if (open == 5) {
                throw fault();
            }
            open++;
            next++;
        }

        private ToIntFunction<Names> or() {
            ToIntFunction<Names> left = and();
            while (takes("or")) {
                ToIntFunction<Names> a = left, b = and();
                left = n -> a.applyAsInt(n) != 0 | b.applyAsInt(n) != 0 ? 1 : 0;
            }
            return left;
        }

        private ToIntFunction<Names> and() {
            ToIntFunction<Names> left = not();
            while (takes("and")) {
                ToIntFunction<Names> a = left, b = not();
                left = n -> a.applyAsInt(n) != 0 & b.applyAsInt(n) != 0 ? 1 : 0;
            }
            return left;
        }

        private ToIntFunction<Names> not() {
            if (now().equals("not")) {
                opens();
                ToIntFunction<Names> a = not();
                open--;
                return n -> a.applyAsInt(n) == 0 ? 1 : 0;
            }
            ToIntFunction<Names> a = sum();
            if (takes("<")) {
                ToIntFunction<Names> b = sum();
                return n -> a.applyAsInt(n) < b.applyAsInt(n) ? 1 : 0;
            }
            if (takes("=")) {
                ToIntFunction<Names> b = sum();
                return n -> a.applyAsInt(n) == b.applyAsInt(n) ? 1 : 0;
            }
            return a;
        }

        private ToIntFunction<Names> sum() {
            ToIntFunction<Names> left = term();
            while (true) {
                ToIntFunction<Names> a = left;
                if (takes("+")) {
                    ToIntFunction<Names> b = term();
                    left = n -> a.applyAsInt(n) + b.applyAsInt(n);
                } else if (takes("-")) {
                    ToIntFunction<Names> b = term();
                    left = n -> a.applyAsInt(n) - b.applyAsInt(n);
                } else {
                    return left;
                }
            }
        }

        private ToIntFunction<Names> term() {
            ToIntFunction<Names> left = one();
            while (takes("*")) {
                ToIntFunction<Names> a = left, b = one();
                left = n -> a.applyAsInt(n) * b.applyAsInt(n);
            }
            return left;
        }

        private ToIntFunction<Names> one() {
            String what = now();
            if (what.equals("-")) {
                opens();
                ToIntFunction<Names> a = one();
                open--;
                return n -> -a.applyAsInt(n);
            }
            if (what.equals("(")) {
                opens();
                ToIntFunction<Names> a = or();
                want(")");
                open--;
                return a;
            }
            if (what.matches("[0-9]+")) {
                next++;
                int v = Integer.parseInt(what);
                return n -> v;
            }
            ToIntFunction<Names> name = switch (what) {
                case "skill" -> Names::skill;
                case "hard" -> Names::hard;
                case "help" -> Names::help;
                case "number" -> Names::number;
                case "day" -> Names::day;
                case "done" -> Names::done;
                default -> throw fault();
            };
            next++;
            return name;
        }
    }

    // ---- state

    static final class World {
        int[] hard = {30, 30, 30, 30, 30, 30, 30, 30};
        int day;
        int rule;
        List<One> ones = new ArrayList<>();

        World copy() {
            World w = new World();
            w.hard = hard.clone();
            w.day = day;
            w.rule = rule;
            for (One o : ones) {
                w.ones.add(o.copy());
            }
            return w;
        }
    }

    private World w = new World();
    private World image;
    private final List<Rule> rules = new ArrayList<>();
    private StringBuilder tape = new StringBuilder();
    private final long[][] rows = new long[4][];
    private final int[] sorts = {-1, -1, -1, -1};

    Model() {
        rules.add(new Rule("teaches 8 - done + help ; fades 1 ; nerves 5 ;"));
    }

    private static int cut(int v, int least, int most) {
        return v < least ? least : v > most ? most : v;
    }

    private int says(World in, One o, int s, int p, int part) {
        return rules.get(in.rule).parts.get(part)
            .applyAsInt(new Names(o.skill[s], in.hard[s], p, o.number, in.day, o.done));
    }

    private int learns(World in, One o, int s, int p) {
        return cut(KINDS[o.kind].learns(o, p, cut(says(in, o, s, p, 0), 0, 99)), 0, 99);
    }

    private int forgets(World in, One o, int s) {
        return cut(KINDS[o.kind].forgets(o, cut(says(in, o, s, 0, 1), 0, 99)), 0, 99);
    }

    private int nerve(World in, One o, int s) {
        return KINDS[o.kind].nerve(o, cut(says(in, o, s, 0, 2), -99, 99));
    }

    private boolean manages(World in, One o, int s) {
        return o.skill[s] + nerve(in, o, s) >= in.hard[s];
    }

    private int managed(World in, One o) {
        int n = 0;
        for (int s = 0; s < 8; s++) {
            n += manages(in, o, s) ? 1 : 0;
        }
        return n;
    }

    private void hour(World in, One o, int s, int p) {
        int v = learns(in, o, s, p);
        boolean bump = !manages(in, o, s) && p != 2;
        if (bump) {
            o.bumps = cut(o.bumps + 1, 0, 999);
            v = v / 2;
        }
        o.skill[s] = cut(o.skill[s] + v, 0, 99);
        o.done = cut(o.done + 1, 0, 99);
    }

    private void nightOf(World in, List<One> ones) {
        for (One o : ones) {
            for (int s = 0; s < 8; s++) {
                o.skill[s] = cut(o.skill[s] - forgets(in, o, s), 0, 99);
            }
        }
        for (One o : ones) {
            o.done = 0;
        }
        in.day++;
    }

    private boolean isOne(int one) {
        return 0 <= one && one < w.ones.size();
    }

    private static boolean in(int v, int least, int most) {
        return least <= v && v <= most;
    }

    // ---- the face

    int set(int what, int of, int v) {
        int was = in(what, 5, 7) ? BAD : told(of, what);
        int most = what == 0 || what == 4 ? 999 : what == 2 ? 9 : 99;
        if (was < 0 || what > 17 || !in(v, 0, most)) {
            return BAD;
        }
        switch (what) {
            case 0 -> w.day = v;
            case 1 -> w.hard[of] = v;
            case 2 -> w.ones.get(of).number = v;
            case 3 -> w.ones.get(of).done = v;
            case 4 -> w.ones.get(of).bumps = v;
            default -> w.ones.get(of).skill[what - 10] = v;
        }
        return was;
    }

    int learner(int kind, int number) {
        if (!in(kind, 0, 5) || !in(number, 0, 9)) {
            return BAD;
        }
        if (w.ones.size() == 5) {
            return FULL;
        }
        One o = new One();
        o.kind = kind;
        o.number = number;
        w.ones.add(o);
        return w.ones.size() - 1;
    }

    int told(int of, int what) {
        if (what == 0) {
            return w.day;
        }
        if (what == 1) {
            return in(of, 0, 7) ? w.hard[of] : BAD;
        }
        if (!isOne(of)) {
            return BAD;
        }
        One o = w.ones.get(of);
        return switch (what) {
            case 2 -> o.number;
            case 3 -> o.done;
            case 4 -> o.bumps;
            case 5 -> o.kind;
            case 6 -> managed(w, o) == 8 ? 1 : 0;
            case 7 -> managed(w, o);
            default -> in(what, 10, 17) ? o.skill[what - 10]
                : in(what, 20, 27) ? manages(w, o, what - 20) ? 1 : 0 : BAD;
        };
    }

    int asks(int one, int street, int what) {
        if (!isOne(one) || !in(street, 0, 7) || !in(what, 0, 4)) {
            return -1000;
        }
        One o = w.ones.get(one);
        return what == 4 ? nerve(w, o, street) : what == 3 ? forgets(w, o, street) : learns(w, o, street, what);
    }

    int feed(int letter) {
        if (!in(letter, 0, 255)) {
            return BAD;
        }
        if (tape.length() == 160) {
            return FULL;
        }
        tape.append((char) letter);
        return tape.length();
    }

    int text() {
        if (rules.size() == 6) {
            return FULL;
        }
        String all = tape.toString();
        tape = new StringBuilder();
        try {
            rules.add(new Rule(all));
        } catch (Fault f) {
            return -100 - f.place;
        }
        return rules.size() - 1;
    }

    int force(int text) {
        if (!in(text, 0, rules.size() - 1)) {
            return BAD;
        }
        int was = w.rule;
        w.rule = text;
        return was;
    }

    int drive(int one, int street, int help) {
        if (!isOne(one) || !in(street, 0, 7) || !in(help, 0, 2)) {
            return BAD;
        }
        hour(w, w.ones.get(one), street, help);
        return w.ones.get(one).skill[street];
    }

    int night() {
        if (w.day == 999) {
            return STATE;
        }
        nightOf(w, w.ones);
        return count(2);
    }

    int best(int one, int what) {
        if (!isOne(one) || !in(what, 0, 1)) {
            return BAD;
        }
        int most = -1, which = 0;
        for (int s = 0; s < 8; s++) {
            for (int p = 0; p < 3; p++) {
                One o = w.ones.get(one).copy();
                hour(w, o, s, p);
                int sum = Arrays.stream(o.skill).sum();
                if (sum > most) {
                    most = sum;
                    which = 10 * s + p;
                }
            }
        }
        return what == 0 ? which : most;
    }

    int hours(int one, int n, int help, int what) {
        if (!isOne(one) || !in(n, 0, 3) || !in(help, 0, 2) || !in(what, 0, 2)) {
            return BAD;
        }
        int rowsInAll = (int) Math.round(Math.pow(8, n));
        int[] found = {0, -1, 0};
        for (int r = 0; r < rowsInAll; r++) {
            One o = w.ones.get(one).copy();
            int digits = 0;
            for (int k = n - 1; k >= 0; k--) {
                int s = r / (int) Math.round(Math.pow(8, k)) % 8;
                hour(w, o, s, help);
                digits = digits * 10 + s + 1;
            }
            if (managed(w, o) > found[1]) {
                found = new int[] {digits, managed(w, o), o.bumps - w.ones.get(one).bumps};
            }
        }
        return found[what];
    }

    int takes(int one, int help, int h) {
        if (!isOne(one) || !in(help, 0, 2) || !in(h, 1, 9)) {
            return BAD;
        }
        World t = w.copy();
        One o = t.ones.get(one);
        for (int day = 0; managed(t, o) < 8; ) {
            if (day > 0) {
                nightOf(t, List.of(o));
            }
            day++;
            if (day > 40) {
                return NONE;
            }
            for (int k = 0; k < h; k++) {
                int least = Arrays.stream(o.skill).min().getAsInt();
                int s = 0;
                while (o.skill[s] != least) {
                    s++;
                }
                hour(t, o, s, help);
            }
            if (managed(t, o) == 8) {
                return day;
            }
        }
        return 0;
    }

    int late(int one, int street) {
        if (!isOne(one) || !in(street, 0, 7)) {
            return BAD;
        }
        One o = w.ones.get(one).copy();
        int n = 0;
        while (!manages(w, o, street)) {
            if (++n > 30) {
                return NONE;
            }
            hour(w, o, street, 0);
        }
        return n;
    }

    int gap(int one, int what) {
        if (!isOne(one) || !in(what, 0, 1)) {
            return -1000;
        }
        One o = w.ones.get(one);
        int which = -1, least = Integer.MAX_VALUE;
        for (int s = 0; s < 8; s++) {
            int by = o.skill[s] + nerve(w, o, s) - w.hard[s];
            if (by < least) {
                least = by;
                which = s;
            }
        }
        return what == 0 ? which : least;
    }

    int faded(int one, int n) {
        if (!isOne(one) || !in(n, 0, 40)) {
            return BAD;
        }
        World t = w.copy();
        for (int k = 0; k < n; k++) {
            nightOf(t, List.of(t.ones.get(one)));
        }
        return managed(t, t.ones.get(one));
    }

    private static long part(long above, long below, int part) {
        java.math.BigInteger a = java.math.BigInteger.valueOf(above), b = java.math.BigInteger.valueOf(below);
        return (part == 0 ? a : b).divide(a.gcd(b)).longValueExact();
    }

    long test(int one, int streets, int part) {
        if (!isOne(one) || !in(streets, 0, 255) || !in(part, 0, 1)) {
            return NO;
        }
        long above = 1, below = 1;
        for (int s = 0; s < 8; s++) {
            if ((streets & 1 << s) != 0) {
                above *= w.ones.get(one).skill[s];
                below *= 100;
            }
        }
        return part(above, below, part);
    }

    private int[] shown(World in, One one, int s, int p, int n) {
        One o = one.copy();
        int[] skills = new int[n];
        for (int k = 0; k < n; k++) {
            hour(in, o, s, p);
            skills[k] = o.skill[s];
        }
        return skills;
    }

    int tells(int sheet, int one, int streetHelp, int what) {
        if (!in(sheet, 0, 3) || !isOne(one) || !in(streetHelp, 0, 79) || streetHelp % 10 > 2 || !in(what, 0, 8)) {
            return BAD;
        }
        if (rows[sheet] == null) {
            return -11;
        }
        int s = streetHelp / 10, n = rows[sheet].length;
        List<Integer> fits = new ArrayList<>();
        int[] sizes = {1, 6, 10, 3, 100, 100, 100, 100, rules.size()};
        int first = -1;
        for (int g = 0; g < sizes[what]; g++) {
            World t = w.copy();
            One o = t.ones.get(one);
            int p = streetHelp % 10;
            switch (what) {
                case 1 -> o.kind = g;
                case 2 -> o.number = g;
                case 3 -> p = g;
                case 4, 5 -> o.skill[s] = g;
                case 6, 7 -> t.hard[s] = g;
                case 8 -> t.rule = g;
                default -> { }
            }
            int[] shown = shown(t, o, s, p, n);
            long[] wide = Arrays.stream(shown).asLongStream().toArray();
            first = Arrays.mismatch(wide, rows[sheet]);
            if (first == -1) {
                fits.add(g);
            }
        }
        return switch (what) {
            case 0 -> first;
            case 4, 6 -> fits.size();
            case 5, 7 -> fits.isEmpty() ? NONE : fits.get(0);
            default -> fits.stream().mapToInt(g -> 1 << g).sum();
        };
    }

    int film(int sheet, int one, int streetHelp, int n) {
        if (!in(sheet, 0, 3) || !isOne(one) || !in(streetHelp, 0, 79) || streetHelp % 10 > 2 || !in(n, 0, 40)) {
            return BAD;
        }
        int[] shown = shown(w, w.ones.get(one), streetHelp / 10, streetHelp % 10, n);
        rows[sheet] = Arrays.stream(shown).asLongStream().toArray();
        sorts[sheet] = 0;
        return n;
    }

    int drawn(int seed, int one) {
        if (!isOne(one)) {
            return BAD;
        }
        int z = seed, passed = 0;
        int[] streets = new int[5];
        for (int k = 0; k < 5; k++) {
            z = z * 1103515245 + 12345;
            streets[k] = (z >>> 9) % 8;
        }
        for (int s : streets) {
            z = z * 1103515245 + 12345;
            passed += (z >>> 9) % 100 < w.ones.get(one).skill[s] ? 1 : 0;
        }
        return passed;
    }

    long chance(int seed, int m, int one, int part) {
        if (!isOne(one) || !in(m, 1, 20) || !in(part, 0, 1)) {
            return NO;
        }
        int all = 0;
        for (int k = 0; k < m; k++) {
            all += drawn(seed + k, one) == 5 ? 1 : 0;
        }
        return part(all, m, part);
    }

    int image() {
        image = w.copy();
        return w.ones.size();
    }

    int back() {
        if (image == null) {
            return STATE;
        }
        w = image.copy();
        return w.ones.size();
    }

    int count(int what) {
        int ready = 0, bumps = 0;
        for (One o : w.ones) {
            ready += managed(w, o) == 8 ? 1 : 0;
            bumps += o.bumps;
        }
        int[] all = {w.ones.size(), w.day, ready, bumps, rules.size(), tape.length(), w.rule};
        return in(what, 0, 6) ? all[what] : BAD;
    }

    int sheet(int sheet, int sort, int n) {
        if (!in(sheet, 0, 3) || !in(sort, -1, 2) || sort != -1 && n > 40) {
            return BAD;
        }
        if (sort != -1 && n < 0) {
            return -14;
        }
        sorts[sheet] = sort;
        rows[sheet] = sort == -1 ? null : new long[n];
        return 1;
    }

    int cell(int sheet, int i, int v) {
        if (!in(sheet, 0, 3)) {
            return BAD;
        }
        if (rows[sheet] == null) {
            return -11;
        }
        if (!in(i, 0, rows[sheet].length - 1)) {
            return -12;
        }
        rows[sheet][i] = sorts[sheet] == 0 ? (byte) v : sorts[sheet] == 1 ? (short) v : v;
        return 1;
    }

    int copy(int sheet, int i, int other, int j, int n) {
        if (!in(sheet, 0, 3) || !in(other, 0, 3)) {
            return BAD;
        }
        if (rows[sheet] == null || rows[other] == null) {
            return -11;
        }
        if (sorts[sheet] != sorts[other]) {
            return -13;
        }
        if (i < 0 || j < 0 || n < 0 || (long) i + n > rows[sheet].length || (long) j + n > rows[other].length) {
            return -12;
        }
        long[] were = rows[sheet].clone();
        for (int k = 0; k < n; k++) {
            rows[other][j + k] = were[i + k];
        }
        return n;
    }

    int learners(int sheet, int sort, int from, int n) {
        if (!in(sheet, 0, 3) || !in(sort, 0, 2) || !in(n, 0, 5)) {
            return BAD;
        }
        if (rows[sheet] == null) {
            return -11;
        }
        if (sorts[sheet] != sort) {
            return -13;
        }
        int came = 0;
        for (long at = from; at < from + 2L * n; at += 2) {
            if (at < 0 || at + 1 >= rows[sheet].length) {
                return -12;
            }
            came += learner((int) rows[sheet][(int) at], (int) rows[sheet][(int) at + 1]) >= 0 ? 1 : 0;
        }
        return came;
    }

    int taken(int learner, int k) {
        if (!in(k, 0, 5)) {
            return BAD;
        }
        if (!isOne(learner)) {
            return -11;
        }
        return KINDS[k].getClass().isInstance(KINDS[w.ones.get(learner).kind]) ? w.ones.get(learner).number : -13;
    }
}
