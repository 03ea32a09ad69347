import java.util.Arrays;

/** Learners of kinds who learn to drive eight streets, a teacher beside them: see ../shared/DOC.md. */
public final class FootOnTheOtherPedal {
    public static final int NONE = -1, BAD = -2, STATE = -3, FULL = -4;
    public static final long NO = -4611686018427387904L;

    private static final int NONE_SUCH = -1000, FAULT = -100;
    private static final int NOTHING = -11, OUTSIDE = -12, OTHER_SORT = -13, BELOW_ZERO = -14;

    private static final int STREETS = 8, PUPILS = 5, KINDS = 6, NUMBERS = 10, HELPS = 3;
    private static final int TEXTS = 6, SHEETS = 4, ROW = 40, TAPE = 160;
    private static final int MOST_SKILL = 99, MOST_HARD = 99, MOST_DONE = 99, MOST_BUMPS = 999, MOST_DAY = 999;
    private static final int MOST_TAUGHT = 99, MOST_NERVES = 99, FIRST_HARD = 30;
    private static final int LONGEST_ROW = 3, MOST_HOURS = 9, MOST_DAYS = 40, LATEST = 30, MOST_NIGHTS = 40;
    private static final int DRAWN_STREETS = 5, MOST_SEEDS = 20;

    private static final int BOLD = 1, SHY = 2, RACER = 3, HELD = 4, OLD = 5;
    /** The KIND that each KIND stands right under. */
    private static final int[] UNDER = {-1, 0, 0, 1, 2, 0};
    private static final int NO_HELP = 0, WORD = 1, FOOT = 2;
    private static final int MISSING = -1, BYTES = 0, SHORTS = 1, INTS = 2;
    private static final String FIRST_TEXT = "teaches 8 - done + help ; fades 1 ; nerves 5 ;";

    private final Text[] texts = new Text[TEXTS];
    private int textCount;
    private final Reader reader = new Reader();
    private final Town town;
    private final Pupil[] pupils = new Pupil[PUPILS];
    private int pupilCount;
    private final Town keptTown;
    private final Pupil[] keptPupils = new Pupil[PUPILS];
    private int keptCount = NONE;
    private final Thought thought;
    private final Sheet[] sheets = new Sheet[SHEETS];

    public FootOnTheOtherPedal() {
        for (int k = 0; k < TEXTS; k++) {
            texts[k] = new Text(k);
        }
        for (int k = 0; k < PUPILS; k++) {
            pupils[k] = new Pupil();
            keptPupils[k] = new Pupil();
        }
        for (int k = 0; k < SHEETS; k++) {
            sheets[k] = new Sheet();
        }
        for (int k = 0; k < FIRST_TEXT.length(); k++) {
            reader.take(FIRST_TEXT.charAt(k));
        }
        reader.readInto(texts[0]);
        textCount = 1;
        town = new Town(texts[0]);
        keptTown = new Town(texts[0]);
        thought = new Thought(texts[0]);
    }

    // ---- streets, learners

    public int set(int what, int of, int v) {
        if (what == 0) {
            return setDay(v);
        }
        if (what == 1) {
            return setHard(of, v);
        }
        Pupil pupil = pupilAt(of);
        return pupil == null ? BAD : pupil.put(what, v);
    }

    private int setDay(int v) {
        if (v < 0 || v > MOST_DAY) {
            return BAD;
        }
        int was = town.day;
        town.day = v;
        return was;
    }

    private int setHard(int street, int v) {
        if (!isStreet(street) || v < 0 || v > MOST_HARD) {
            return BAD;
        }
        int was = town.hards[street];
        town.hards[street] = v;
        return was;
    }

    public int learner(int kind, int number) {
        return comes(kind, number);
    }

    private int comes(int kind, int number) {
        if (kind < 0 || kind >= KINDS || number < 0 || number >= NUMBERS) {
            return BAD;
        }
        if (pupilCount < 0 || pupilCount >= PUPILS) {
            return FULL;
        }
        pupils[pupilCount].begin(kind, number);
        pupilCount++;
        return pupilCount - 1;
    }

    public int told(int of, int what) {
        if (what == 0) {
            return town.day;
        }
        if (what == 1) {
            return isStreet(of) ? town.hards[of] : BAD;
        }
        Pupil pupil = pupilAt(of);
        if (pupil == null) {
            return BAD;
        }
        if (what == 6) {
            return town.isReady(pupil) ? 1 : 0;
        }
        if (what == 7) {
            return town.managedBy(pupil);
        }
        if (what >= 20 && isStreet(what - 20)) {
            return town.margin(pupil, what - 20) >= 0 ? 1 : 0;
        }
        return pupil.valueOf(what);
    }

    public int asks(int one, int street, int what) {
        Pupil pupil = pupilAt(one);
        if (pupil == null || !isStreet(street) || what < 0 || what > HELPS + 1) {
            return NONE_SUCH;
        }
        if (what < HELPS) {
            return town.learns(pupil, street, what);
        }
        return what == HELPS ? town.forgets(pupil, street) : town.nerve(pupil, street);
    }

    // ---- texts

    public int feed(int letter) {
        if (letter < 0 || letter > 255) {
            return BAD;
        }
        return reader.take(letter) ? reader.size : FULL;
    }

    public int text() {
        if (textCount < 0 || textCount >= TEXTS) {
            return FULL;
        }
        int fault = reader.readInto(texts[textCount]);
        if (fault != NONE) {
            return FAULT - fault;
        }
        textCount++;
        return textCount - 1;
    }

    public int force(int text) {
        Text next = textAt(text);
        if (next == null) {
            return BAD;
        }
        int was = town.rule.number;
        town.rule = next;
        return was;
    }

    // ---- hours, nights

    public int drive(int one, int street, int help) {
        Pupil pupil = pupilAt(one);
        if (pupil == null || !isStreet(street) || !isHelp(help)) {
            return BAD;
        }
        town.spendHour(pupil, street, help);
        return pupil.skills[street];
    }

    public int night() {
        if (town.day >= MOST_DAY) {
            return STATE;
        }
        for (int k = 0; k < pupilCount && k < PUPILS; k++) {
            town.sleep(pupils[k]);
        }
        town.day++;
        return readyPupils();
    }

    private int readyPupils() {
        int ready = 0;
        for (int k = 0; k < pupilCount && k < PUPILS; k++) {
            if (town.isReady(pupils[k])) {
                ready++;
            }
        }
        return ready;
    }

    // ---- what would be best

    public int best(int one, int what) {
        Pupil pupil = pupilAt(one);
        if (pupil == null || what < 0 || what > 1) {
            return BAD;
        }
        return thought.bestHour(town, pupil, what == 0);
    }

    public int hours(int one, int n, int help, int what) {
        Pupil pupil = pupilAt(one);
        if (pupil == null || n < 0 || n > LONGEST_ROW || !isHelp(help) || what < 0 || what > 2) {
            return BAD;
        }
        thought.beginRows(town, pupil);
        thought.tryRows(0, n, help, 0);
        if (what == 0) {
            return thought.row;
        }
        return what == 1 ? thought.managed : thought.bumps;
    }

    public int takes(int one, int help, int h) {
        Pupil pupil = pupilAt(one);
        if (pupil == null || !isHelp(help) || h < 1 || h > MOST_HOURS) {
            return BAD;
        }
        return thought.daysTill(town, pupil, help, h);
    }

    public int late(int one, int street) {
        Pupil pupil = pupilAt(one);
        if (pupil == null || !isStreet(street)) {
            return BAD;
        }
        return thought.bumpsTill(town, pupil, street);
    }

    public int gap(int one, int what) {
        Pupil pupil = pupilAt(one);
        if (pupil == null || what < 0 || what > 1) {
            return NONE_SUCH;
        }
        int street = town.leastManaged(pupil);
        return what == 0 ? street : town.margin(pupil, street);
    }

    public int faded(int one, int n) {
        Pupil pupil = pupilAt(one);
        if (pupil == null || n < 0 || n > MOST_NIGHTS) {
            return BAD;
        }
        return thought.managedBehind(town, pupil, n);
    }

    public long test(int one, int streets, int part) {
        Pupil pupil = pupilAt(one);
        if (pupil == null || streets < 0 || streets >= 1 << STREETS || part < 0 || part > 1) {
            return NO;
        }
        long above = 1;
        long below = 1;
        for (int street = 0; street < STREETS; street++) {
            if ((streets >> street & 1) == 1) {
                above *= pupil.skills[street];
                below *= 100;
            }
        }
        return inLowestTerms(above, below, part);
    }

    // ---- skill that was told

    public int tells(int sheet, int one, int streetHelp, int what) {
        Sheet row = sheetAt(sheet);
        Pupil pupil = pupilAt(one);
        if (row == null || pupil == null || !isStreetHelp(streetHelp) || what < 0 || what > 8) {
            return BAD;
        }
        if (row.sort == MISSING) {
            return NOTHING;
        }
        int street = streetHelp / 10;
        int guesses = guessesOf(what);
        int first = NONE;
        int bits = 0;
        int fitting = 0;
        int least = NONE;
        for (int guess = 0; guess < guesses; guess++) {
            thought.begin(town, pupil);
            suppose(what, street, guess);
            first = thought.firstOtherwise(row, street, what == 3 ? guess : streetHelp % 10);
            if (first == NONE) {
                bits |= 1 << guess;
                fitting++;
                least = least == NONE ? guess : least;
            }
        }
        switch (what) {
            case 0:
                return first;
            case 4:
            case 6:
                return fitting;
            case 5:
            case 7:
                return least;
            default:
                return bits;
        }
    }

    /** How many things may be guessed of the one that what names; as all truly is (0), there is one guess. */
    private int guessesOf(int what) {
        switch (what) {
            case 0:
                return 1;
            case 1:
                return KINDS;
            case 2:
                return NUMBERS;
            case 3:
                return HELPS;
            case 8:
                return textCount;
            default:
                return what <= 5 ? MOST_SKILL + 1 : MOST_HARD + 1;
        }
    }

    private void suppose(int what, int street, int guess) {
        if (what == 1) {
            thought.pupil.kind = guess;
        } else if (what == 2) {
            thought.pupil.number = guess;
        } else if (what == 4 || what == 5) {
            thought.pupil.skills[street] = guess;
        } else if (what == 6 || what == 7) {
            thought.town.hards[street] = guess;
        } else if (what == 8) {
            Text rule = textAt(guess);
            if (rule != null) {
                thought.town.rule = rule;
            }
        }
    }

    public int film(int sheet, int one, int streetHelp, int n) {
        Sheet row = sheetAt(sheet);
        Pupil pupil = pupilAt(one);
        if (row == null || pupil == null || !isStreetHelp(streetHelp) || n < 0 || n > ROW) {
            return BAD;
        }
        int street = streetHelp / 10;
        thought.begin(town, pupil);
        row.become(BYTES, n);
        for (int k = 0; k < n; k++) {
            thought.town.spendHour(thought.pupil, street, streetHelp % 10);
            row.put(k, thought.pupil.skills[street]);
        }
        return n;
    }

    public int drawn(int seed, int one) {
        Pupil pupil = pupilAt(one);
        return pupil == null ? BAD : passedBy(seed, pupil);
    }

    public long chance(int seed, int m, int one, int part) {
        Pupil pupil = pupilAt(one);
        if (pupil == null || m < 1 || m > MOST_SEEDS || part < 0 || part > 1) {
            return NO;
        }
        int whole = 0;
        for (int k = 0; k < m; k++) {
            if (passedBy(seed + k, pupil) == DRAWN_STREETS) {
                whole++;
            }
        }
        return inLowestTerms(whole, m, part);
    }

    private static int passedBy(int seed, Pupil pupil) {
        int drawing = seed;
        int passing = seed;
        // All streets are drawn before the first is passed or not: passing runs that far ahead.
        for (int k = 0; k < DRAWN_STREETS; k++) {
            passing = drawnOn(passing);
        }
        int passed = 0;
        for (int k = 0; k < DRAWN_STREETS; k++) {
            drawing = drawnOn(drawing);
            passing = drawnOn(passing);
            if ((passing >>> 9) % 100 < pupil.skills[(drawing >>> 9) % STREETS]) {
                passed++;
            }
        }
        return passed;
    }

    private static int drawnOn(int z) {
        return z * 1103515245 + 12345;
    }

    public int image() {
        keptTown.become(town);
        for (int k = 0; k < pupilCount && k < PUPILS; k++) {
            keptPupils[k].become(pupils[k]);
        }
        keptCount = pupilCount;
        return keptCount;
    }

    public int back() {
        if (keptCount == NONE) {
            return STATE;
        }
        town.become(keptTown);
        for (int k = 0; k < keptCount && k < PUPILS; k++) {
            pupils[k].become(keptPupils[k]);
        }
        pupilCount = keptCount;
        return pupilCount;
    }

    public int count(int what) {
        switch (what) {
            case 0:
                return pupilCount;
            case 1:
                return town.day;
            case 2:
                return readyPupils();
            case 3:
                return bumpsOfAll();
            case 4:
                return textCount;
            case 5:
                return reader.size;
            case 6:
                return town.rule.number;
            default:
                return BAD;
        }
    }

    private int bumpsOfAll() {
        int bumps = 0;
        for (int k = 0; k < pupilCount && k < PUPILS; k++) {
            bumps += pupils[k].bumps;
        }
        return bumps;
    }

    // ---- the host

    public int sheet(int sheet, int sort, int n) {
        Sheet row = sheetAt(sheet);
        if (row == null || sort < MISSING || sort > INTS) {
            return BAD;
        }
        if (sort == MISSING) {
            row.become(MISSING, 0);
            return 1;
        }
        if (n > ROW) {
            return BAD;
        }
        if (n < 0) {
            return BELOW_ZERO;
        }
        row.become(sort, n);
        return 1;
    }

    public int cell(int sheet, int i, int v) {
        Sheet row = sheetAt(sheet);
        if (row == null) {
            return BAD;
        }
        if (row.sort == MISSING) {
            return NOTHING;
        }
        if (!row.has(i)) {
            return OUTSIDE;
        }
        row.put(i, v);
        return 1;
    }

    public int copy(int sheet, int i, int other, int j, int n) {
        Sheet from = sheetAt(sheet);
        Sheet to = sheetAt(other);
        if (from == null || to == null) {
            return BAD;
        }
        if (from.sort == MISSING || to.sort == MISSING) {
            return NOTHING;
        }
        if (from.sort != to.sort) {
            return OTHER_SORT;
        }
        if (!from.hasRun(i, n) || !to.hasRun(j, n)) {
            return OUTSIDE;
        }
        System.arraycopy(from.items, i, to.items, j, n);
        return n;
    }

    public int learners(int sheet, int sort, int from, int n) {
        Sheet row = sheetAt(sheet);
        if (row == null || sort < BYTES || sort > INTS || n < 0 || n > PUPILS) {
            return BAD;
        }
        if (row.sort == MISSING) {
            return NOTHING;
        }
        if (row.sort != sort) {
            return OTHER_SORT;
        }
        int came = 0;
        int at = from;
        for (int k = 0; k < n; k++) {
            if (!row.has(at) || !row.has(at + 1)) {
                return OUTSIDE;
            }
            if (comes(row.items[at], row.items[at + 1]) >= 0) {
                came++;
            }
            at += 2;
        }
        return came;
    }

    public int taken(int learner, int k) {
        if (k < 0 || k >= KINDS) {
            return BAD;
        }
        Pupil pupil = pupilAt(learner);
        if (pupil == null) {
            return NOTHING;
        }
        return pupil.isOfKind(k) ? pupil.number : OTHER_SORT;
    }

    // ---- what the calls share

    private Pupil pupilAt(int one) {
        return one >= 0 && one < pupilCount && one < PUPILS ? pupils[one] : null;
    }

    private Text textAt(int text) {
        return text >= 0 && text < textCount && text < TEXTS ? texts[text] : null;
    }

    private Sheet sheetAt(int sheet) {
        return sheet >= 0 && sheet < SHEETS ? sheets[sheet] : null;
    }

    private static boolean isStreet(int street) {
        return street >= 0 && street < STREETS;
    }

    private static boolean isHelp(int help) {
        return help >= 0 && help < HELPS;
    }

    private static boolean isStreetHelp(int streetHelp) {
        return streetHelp >= 0 && isStreet(streetHelp / 10) && isHelp(streetHelp % 10);
    }

    private static int bounded(int v, int least, int most) {
        return Math.max(least, Math.min(most, v));
    }

    private static long inLowestTerms(long above, long below, int part) {
        long measure = above;
        long rest = below;
        // Euclid's steps between longs are fewer than a hundred.
        for (int k = 0; k < 100 && rest != 0; k++) {
            long left = measure % rest;
            measure = rest;
            rest = left;
        }
        if (measure == 0) {
            return NO;
        }
        return (part == 0 ? above : below) / measure;
    }

    /** A LEARNER: what it is, and how its KIND bends what a TEXT tells. */
    static final class Pupil {
        int kind;
        int number;
        int done;
        int bumps;
        final int[] skills = new int[STREETS];

        void begin(int ofKind, int ofNumber) {
            kind = ofKind;
            number = ofNumber;
            done = 0;
            bumps = 0;
            Arrays.fill(skills, 0);
        }

        void become(Pupil other) {
            kind = other.kind;
            number = other.number;
            done = other.done;
            bumps = other.bumps;
            System.arraycopy(other.skills, 0, skills, 0, STREETS);
        }

        int valueOf(int what) {
            switch (what) {
                case 2:
                    return number;
                case 3:
                    return done;
                case 4:
                    return bumps;
                case 5:
                    return kind;
                default:
                    return what >= 10 && isStreet(what - 10) ? skills[what - 10] : BAD;
            }
        }

        int put(int what, int v) {
            int was = valueOf(what);
            if (was == BAD || v < 0 || v > mostOf(what)) {
                return BAD;
            }
            if (what == 2) {
                number = v;
            } else if (what == 3) {
                done = v;
            } else if (what == 4) {
                bumps = v;
            } else if (what >= 10 && isStreet(what - 10)) {
                skills[what - 10] = v;
            }
            return was;
        }

        /** KIND (5) is told, but never set: nothing is small enough for it. */
        private static int mostOf(int what) {
            switch (what) {
                case 2:
                    return NUMBERS - 1;
                case 3:
                    return MOST_DONE;
                case 4:
                    return MOST_BUMPS;
                case 5:
                    return -1;
                default:
                    return MOST_SKILL;
            }
        }

        int learnsOf(int v, int help) {
            int bold = help == NO_HELP ? 2 * v : v;
            int shy = help == NO_HELP ? v / 2 : v;
            switch (kind) {
                case BOLD:
                    return bold;
                case SHY:
                    return shy;
                case RACER:
                    return help == FOOT ? 0 : bold;
                case HELD:
                    return help == WORD ? shy + number : shy;
                case OLD:
                    return Math.min(v, 3);
                default:
                    return v;
            }
        }

        int forgetsOf(int v) {
            switch (kind) {
                case SHY:
                case HELD:
                    return v + 1;
                case RACER:
                    return 2 * v;
                case OLD:
                    return v + number;
                default:
                    return v;
            }
        }

        int nerveOf(int v) {
            switch (kind) {
                case BOLD:
                    return v + 5;
                case SHY:
                    return v - 5;
                case RACER:
                    return v + 5 + number;
                case HELD:
                    return done > 1 ? 0 : v - 5;
                case OLD:
                    return v / 2;
                default:
                    return v;
            }
        }

        boolean isOfKind(int k) {
            int at = kind;
            for (int step = 0; step < KINDS && at >= 0 && at < UNDER.length; step++) {
                if (at == k) {
                    return true;
                }
                at = UNDER[at];
            }
            return false;
        }

        int leastSkilled() {
            int least = 0;
            for (int street = 1; street < STREETS; street++) {
                if (skills[street] < skills[least]) {
                    least = street;
                }
            }
            return least;
        }

        int skillsTogether() {
            int together = 0;
            for (int street = 0; street < STREETS; street++) {
                together += skills[street];
            }
            return together;
        }
    }

    /** The STREETS, the DAY and THE RULE: what an HOUR and a NIGHT do with a Pupil there. */
    static final class Town {
        final int[] hards = new int[STREETS];
        int day;
        Text rule;
        private final int[] names = new int[Text.NAMES];

        Town(Text first) {
            rule = first;
            Arrays.fill(hards, FIRST_HARD);
        }

        void become(Town other) {
            day = other.day;
            rule = other.rule;
            System.arraycopy(other.hards, 0, hards, 0, STREETS);
        }

        private void name(Pupil one, int street, int help) {
            names[Text.SKILL] = one.skills[street];
            names[Text.HARD] = hards[street];
            names[Text.HELP] = help;
            names[Text.NUMBER] = one.number;
            names[Text.DAY] = day;
            names[Text.DONE] = one.done;
        }

        int learns(Pupil one, int street, int help) {
            name(one, street, help);
            int taught = bounded(rule.value(Text.TEACHES, names), 0, MOST_TAUGHT);
            return bounded(one.learnsOf(taught, help), 0, MOST_TAUGHT);
        }

        int forgets(Pupil one, int street) {
            name(one, street, NO_HELP);
            int faded = bounded(rule.value(Text.FADES, names), 0, MOST_TAUGHT);
            return bounded(one.forgetsOf(faded), 0, MOST_TAUGHT);
        }

        int nerve(Pupil one, int street) {
            name(one, street, NO_HELP);
            return one.nerveOf(bounded(rule.value(Text.NERVES, names), -MOST_NERVES, MOST_NERVES));
        }

        /** SKILL and NERVE less HARD: one MANAGES a STREET if it is not below 0. */
        int margin(Pupil one, int street) {
            return one.skills[street] + nerve(one, street) - hards[street];
        }

        int managedBy(Pupil one) {
            int managed = 0;
            for (int street = 0; street < STREETS; street++) {
                if (margin(one, street) >= 0) {
                    managed++;
                }
            }
            return managed;
        }

        boolean isReady(Pupil one) {
            for (int street = 0; street < STREETS; street++) {
                if (margin(one, street) < 0) {
                    return false;
                }
            }
            return true;
        }

        int leastManaged(Pupil one) {
            int least = 0;
            int leastMargin = margin(one, 0);
            for (int street = 1; street < STREETS; street++) {
                int margin = margin(one, street);
                if (margin < leastMargin) {
                    least = street;
                    leastMargin = margin;
                }
            }
            return least;
        }

        void spendHour(Pupil one, int street, int help) {
            int more = learns(one, street, help);
            if (help != FOOT && margin(one, street) < 0) {
                one.bumps = Math.min(MOST_BUMPS, one.bumps + 1);
                more /= 2;
            }
            one.skills[street] = Math.min(MOST_SKILL, one.skills[street] + more);
            one.done = Math.min(MOST_DONE, one.done + 1);
        }

        /** A NIGHT for one alone: the DAY goes on once, behind the sleep of all. */
        void sleep(Pupil one) {
            for (int street = 0; street < STREETS; street++) {
                one.skills[street] = Math.max(0, one.skills[street] - forgets(one, street));
            }
            one.done = 0;
        }
    }

    /** What would be, of one: tried on a Pupil and in a Town that are not the true ones. */
    static final class Thought {
        final Town town;
        final Pupil pupil = new Pupil();
        int row;
        int managed;
        int bumps;
        /** The Pupil behind 0, 1, .. HOURS of a row that is tried. */
        private final Pupil[] behind = new Pupil[LONGEST_ROW + 1];

        Thought(Text first) {
            town = new Town(first);
            for (int k = 0; k <= LONGEST_ROW; k++) {
                behind[k] = new Pupil();
            }
        }

        void begin(Town trueTown, Pupil one) {
            town.become(trueTown);
            pupil.become(one);
        }

        int bestHour(Town trueTown, Pupil one, boolean which) {
            int most = NONE;
            int hour = 0;
            for (int street = 0; street < STREETS; street++) {
                for (int help = 0; help < HELPS; help++) {
                    begin(trueTown, one);
                    town.spendHour(pupil, street, help);
                    int together = pupil.skillsTogether();
                    if (together > most) {
                        most = together;
                        hour = 10 * street + help;
                    }
                }
            }
            return which ? hour : most;
        }

        void beginRows(Town trueTown, Pupil one) {
            begin(trueTown, one);
            behind[0].become(one);
            row = 0;
            managed = NONE;
            bumps = 0;
        }

        /** Rows come in their order, so that the first of like ones is the one that stays. */
        private void tryRows(int hour, int n, int help, int digits) {
            if (hour < 0 || hour > LONGEST_ROW) {
                return;
            }
            if (hour < n && hour < LONGEST_ROW) {
                for (int street = 0; street < STREETS; street++) {
                    behind[hour + 1].become(behind[hour]);
                    town.spendHour(behind[hour + 1], street, help);
                    tryRows(hour + 1, n, help, 10 * digits + street + 1);
                }
                return;
            }
            int now = town.managedBy(behind[hour]);
            if (now > managed) {
                managed = now;
                row = digits;
                bumps = behind[hour].bumps - pupil.bumps;
            }
        }

        int daysTill(Town trueTown, Pupil one, int help, int h) {
            begin(trueTown, one);
            if (town.isReady(pupil)) {
                return 0;
            }
            for (int days = 1; days <= MOST_DAYS; days++) {
                for (int k = 0; k < h; k++) {
                    town.spendHour(pupil, pupil.leastSkilled(), help);
                }
                if (town.isReady(pupil)) {
                    return days;
                }
                passNight();
            }
            return NONE;
        }

        private void passNight() {
            town.sleep(pupil);
            town.day++;
        }

        int bumpsTill(Town trueTown, Pupil one, int street) {
            begin(trueTown, one);
            for (int spent = 0; spent <= LATEST; spent++) {
                if (town.margin(pupil, street) >= 0) {
                    return spent;
                }
                town.spendHour(pupil, street, NO_HELP);
            }
            return NONE;
        }

        int managedBehind(Town trueTown, Pupil one, int nights) {
            begin(trueTown, one);
            for (int k = 0; k < nights; k++) {
                passNight();
            }
            return town.managedBy(pupil);
        }

        /** The first item that is not SKILL behind so many HOURS; the Pupil is used up by it. */
        int firstOtherwise(Sheet told, int street, int help) {
            for (int k = 0; k < told.size && k < ROW; k++) {
                town.spendHour(pupil, street, help);
                if (told.items[k] != pupil.skills[street]) {
                    return k;
                }
            }
            return NONE;
        }
    }

    /** A TEXT: three E, each as a row of steps over a stack. */
    static final class Text {
        static final int TEACHES = 0, FADES = 1, NERVES = 2, PARTS = 3;
        static final int SKILL = 0, HARD = 1, HELP = 2, NUMBER = 3, DAY = 4, DONE = 5, NAMES = 6;
        /** Steps: a NUMBER is itself, NAME k is -1 - k, what is below joins or turns what stands on the stack. */
        static final int OR = -11, AND = -12, NOT = -13, LESS = -14, LIKE = -15;
        static final int PLUS = -16, MINUS = -17, TIMES = -18, NEGATE = -19;
        /** Six levels ( 5 may be open ) of five that wait (or, and, <, +, *), and one more: 31. */
        private static final int STACK = 32;

        final int number;
        private final int[] steps = new int[TAPE];
        private final int[] ends = new int[PARTS];
        private final int[] stack = new int[STACK];
        private int size;

        Text(int itsNumber) {
            number = itsNumber;
        }

        void empty() {
            size = 0;
            Arrays.fill(ends, 0);
        }

        void become(Text other) {
            size = other.size;
            System.arraycopy(other.ends, 0, ends, 0, PARTS);
            System.arraycopy(other.steps, 0, steps, 0, TAPE);
        }

        void add(int step) {
            if (size >= 0 && size < TAPE) {
                steps[size] = step;
                size++;
            }
        }

        void endPart(int part) {
            if (part >= 0 && part < PARTS) {
                ends[part] = size;
            }
        }

        int value(int part, int[] names) {
            if (part < 0 || part >= PARTS) {
                return 0;
            }
            int from = part == 0 ? 0 : ends[part - 1];
            int top = 0;
            for (int k = from; k >= 0 && k < ends[part] && k < TAPE; k++) {
                int step = steps[k];
                if (step >= -NAMES) {
                    if (top >= STACK) {
                        return 0;
                    }
                    stack[top] = named(step, names);
                    top++;
                } else if (step == NOT || step == NEGATE) {
                    if (top < 1) {
                        return 0;
                    }
                    int only = stack[top - 1];
                    stack[top - 1] = step == NEGATE ? -only : only == 0 ? 1 : 0;
                } else {
                    if (top < 2) {
                        return 0;
                    }
                    top--;
                    stack[top - 1] = joined(step, stack[top - 1], stack[top]);
                }
            }
            return top > 0 ? stack[0] : 0;
        }

        private static int named(int step, int[] names) {
            if (step >= 0) {
                return step;
            }
            return -1 - step < names.length ? names[-1 - step] : 0;
        }

        private static int joined(int step, int left, int right) {
            switch (step) {
                case OR:
                    return left != 0 || right != 0 ? 1 : 0;
                case AND:
                    return left != 0 && right != 0 ? 1 : 0;
                case LESS:
                    return left < right ? 1 : 0;
                case LIKE:
                    return left == right ? 1 : 0;
                case PLUS:
                    return left + right;
                case MINUS:
                    return left - right;
                case TIMES:
                    return left * right;
                default:
                    return 0;
            }
        }
    }

    /** THE TAPE, and the reading of it: every way ends on the TOKEN that can't stand there. */
    static final class Reader {
        private static final int MOST_OPEN = 5, LONGEST_NUMBER = 4;
        /** Sorts of TOKENS: a SIGN is its own byte (40 .. 61), and NAME k is FIRST_NAME + k (10 .. 15). */
        private static final int END = 0, BROKEN = 1, NUMBER = 2, FIRST_NAME = 10;
        private static final int TEACHES = 3, FADES = 4, NERVES = 5, OR = 6, AND = 7, NOT = 8;

        int size;
        private final int[] tape = new int[TAPE];
        /** What is made of THE TAPE so far: no TEXT yet, as a FAULT may come. */
        private final Text made = new Text(NONE);
        private int token;
        private int at;
        private int behind;
        private int value;

        boolean take(int letter) {
            if (size < 0 || size >= TAPE) {
                return false;
            }
            tape[size] = letter;
            size++;
            return true;
        }

        /** The place of the FAULT, or NONE; THE TAPE is empty then. */
        int readInto(Text into) {
            made.empty();
            behind = 0;
            step();
            boolean whole = readPart(TEACHES, Text.TEACHES) && readPart(FADES, Text.FADES)
                && readPart(NERVES, Text.NERVES) && token == END;
            size = 0;
            if (!whole) {
                return at;
            }
            into.become(made);
            return NONE;
        }

        private boolean readPart(int key, int part) {
            if (token != key) {
                return false;
            }
            step();
            if (!readOr(0) || token != ';') {
                return false;
            }
            step();
            made.endPart(part);
            return true;
        }

        private boolean readOr(int open) {
            if (!readAnd(open)) {
                return false;
            }
            for (int k = 0; k < TAPE && token == OR; k++) {
                step();
                if (!readAnd(open)) {
                    return false;
                }
                made.add(Text.OR);
            }
            return true;
        }

        private boolean readAnd(int open) {
            if (!readNot(open)) {
                return false;
            }
            for (int k = 0; k < TAPE && token == AND; k++) {
                step();
                if (!readNot(open)) {
                    return false;
                }
                made.add(Text.AND);
            }
            return true;
        }

        private boolean readNot(int open) {
            if (token != NOT) {
                return readLike(open);
            }
            if (open >= MOST_OPEN) {
                return false;
            }
            step();
            if (!readNot(open + 1)) {
                return false;
            }
            made.add(Text.NOT);
            return true;
        }

        private boolean readLike(int open) {
            if (!readSum(open)) {
                return false;
            }
            if (token != '<' && token != '=') {
                return true;
            }
            int joint = token == '<' ? Text.LESS : Text.LIKE;
            step();
            if (!readSum(open)) {
                return false;
            }
            made.add(joint);
            return true;
        }

        private boolean readSum(int open) {
            if (!readTerm(open)) {
                return false;
            }
            for (int k = 0; k < TAPE && (token == '+' || token == '-'); k++) {
                int joint = token == '+' ? Text.PLUS : Text.MINUS;
                step();
                if (!readTerm(open)) {
                    return false;
                }
                made.add(joint);
            }
            return true;
        }

        private boolean readTerm(int open) {
            if (!readOne(open)) {
                return false;
            }
            for (int k = 0; k < TAPE && token == '*'; k++) {
                step();
                if (!readOne(open)) {
                    return false;
                }
                made.add(Text.TIMES);
            }
            return true;
        }

        private boolean readOne(int open) {
            boolean isName = token >= FIRST_NAME && token < FIRST_NAME + Text.NAMES;
            if (token == NUMBER || isName) {
                made.add(isName ? FIRST_NAME - 1 - token : value);
                step();
                return true;
            }
            if (open >= MOST_OPEN) {
                return false;
            }
            if (token == '-') {
                step();
                if (!readOne(open + 1)) {
                    return false;
                }
                made.add(Text.NEGATE);
                return true;
            }
            if (token != '(') {
                return false;
            }
            step();
            if (!readOr(open + 1) || token != ')') {
                return false;
            }
            step();
            return true;
        }

        /** On to the next TOKEN: at is its first byte, behind the first byte that is no more of it. */
        private void step() {
            at = behind;
            for (int k = 0; k < TAPE && (byteAt(at) == 32 || byteAt(at) == 10); k++) {
                at++;
            }
            behind = at;
            if (at >= size) {
                token = END;
            } else if (byteAt(at) >= 'a' && byteAt(at) <= 'z') {
                skip('a', 'z');
                token = wordAt();
            } else if (byteAt(at) >= '0' && byteAt(at) <= '9') {
                skip('0', '9');
                token = numberAt();
            } else {
                behind = at + 1;
                token = signAt();
            }
        }

        private void skip(char least, char most) {
            for (int k = 0; k < TAPE && byteAt(behind) >= least && byteAt(behind) <= most; k++) {
                behind++;
            }
        }

        private int byteAt(int place) {
            return place >= 0 && place < size && place < TAPE ? tape[place] : NONE;
        }

        private int signAt() {
            int sign = byteAt(at);
            switch (sign) {
                case '(':
                case ')':
                case ';':
                case '+':
                case '-':
                case '*':
                case '<':
                case '=':
                    return sign;
                default:
                    return BROKEN;
            }
        }

        private int numberAt() {
            if (behind - at > LONGEST_NUMBER) {
                return BROKEN;
            }
            value = 0;
            for (int place = at; place < behind; place++) {
                value = 10 * value + byteAt(place) - '0';
            }
            return NUMBER;
        }

        private int wordAt() {
            if (reads("skill")) {
                return FIRST_NAME + Text.SKILL;
            }
            if (reads("hard")) {
                return FIRST_NAME + Text.HARD;
            }
            if (reads("help")) {
                return FIRST_NAME + Text.HELP;
            }
            if (reads("number")) {
                return FIRST_NAME + Text.NUMBER;
            }
            if (reads("day")) {
                return FIRST_NAME + Text.DAY;
            }
            if (reads("done")) {
                return FIRST_NAME + Text.DONE;
            }
            if (reads("teaches")) {
                return TEACHES;
            }
            if (reads("fades")) {
                return FADES;
            }
            if (reads("nerves")) {
                return NERVES;
            }
            if (reads("or")) {
                return OR;
            }
            if (reads("and")) {
                return AND;
            }
            return reads("not") ? NOT : BROKEN;
        }

        private boolean reads(String word) {
            if (behind - at != word.length()) {
                return false;
            }
            for (int k = 0; k < word.length(); k++) {
                if (byteAt(at + k) != word.charAt(k)) {
                    return false;
                }
            }
            return true;
        }
    }

    /** A SHEET: its items are held as they come out of a row of its sort. */
    static final class Sheet {
        int sort = MISSING;
        int size;
        final int[] items = new int[ROW];

        void become(int newSort, int n) {
            sort = newSort;
            size = bounded(n, 0, ROW);
            Arrays.fill(items, 0);
        }

        boolean has(int i) {
            return i >= 0 && i < size && i < ROW;
        }

        boolean hasRun(int i, int n) {
            return i >= 0 && n >= 0 && i <= size && n <= size - i;
        }

        void put(int i, int v) {
            if (has(i)) {
                items[i] = sort == BYTES ? (byte) v : sort == SHORTS ? (short) v : v;
            }
        }
    }
}
