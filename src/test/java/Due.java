/** What is due of calls: prints every answer that is another one, and ends with 1 if there was one. */
final class Due {
    private int wrong = 0;
    private int asked = 0;

    void is(String call, long got, long want) {
        asked++;
        if (got != want) {
            wrong++;
            System.out.println(call + " answered " + got + ", due is " + want);
        }
    }

    void holds(String what, boolean so) {
        is(what, so ? 1 : 0, 1);
    }

    void end() {
        System.out.println(asked + " asked, " + wrong + " wrong");
        if (wrong != 0) {
            System.exit(1);
        }
    }

    static void feed(FootOnTheOtherPedal x, String text) {
        for (int k = 0; k < text.length(); k++) {
            x.feed(text.charAt(k));
        }
    }

    /** What text() answers of such a TAPE. */
    static int text(FootOnTheOtherPedal x, String text) {
        feed(x, text);
        return x.text();
    }

    /** A new object whose RULE is such a TEXT. */
    static FootOnTheOtherPedal ruled(String text) {
        FootOnTheOtherPedal x = new FootOnTheOtherPedal();
        x.force(text(x, text));
        return x;
    }

    /** A new object with such a RULE and one learner. */
    static FootOnTheOtherPedal one(int kind, int number, String rule) {
        FootOnTheOtherPedal x = ruled(rule);
        x.learner(kind, number);
        return x;
    }

    /** A SHEET of a sort that holds such items. */
    static void row(FootOnTheOtherPedal x, int sheet, int sort, int... items) {
        x.sheet(sheet, sort, items.length);
        for (int k = 0; k < items.length; k++) {
            x.cell(sheet, k, items[k]);
        }
    }
}
