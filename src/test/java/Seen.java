/**
 * All that can be seen of an object, as one text: two objects in like states tell the same. Seeing uses an object up,
 * so it is made anew for each look. If there is a TEXT 1, it is one that teaches 0: SHEETS are read by it.
 */
final class Seen {
    interface Making {
        FootOnTheOtherPedal make();
    }

    private static final int[] OF_A_LEARNER = {2, 3, 4, 5, 6, 7, 10, 11, 12, 13, 14, 15, 16, 17};

    private Seen() {
    }

    static String of(Making making) {
        StringBuilder all = new StringBuilder();
        tellState(making.make(), all);
        FootOnTheOtherPedal x = making.make();
        all.append(" back ").append(x.back());
        tellState(x, all);
        tellTexts(making.make(), all);
        for (int sheet = 0; sheet < 4; sheet++) {
            tellSheet(making.make(), sheet, all);
        }
        return all.toString();
    }

    private static void tellState(FootOnTheOtherPedal x, StringBuilder all) {
        all.append(" counts");
        for (int what = 0; what < 7; what++) {
            all.append(' ').append(x.count(what));
        }
        all.append(" hard");
        for (int street = 0; street < 8; street++) {
            all.append(' ').append(x.told(street, 1));
        }
        for (int one = 0; one < x.count(0); one++) {
            all.append(" learner ").append(one);
            for (int what : OF_A_LEARNER) {
                all.append(' ').append(x.told(one, what));
            }
        }
    }

    private static void tellTexts(FootOnTheOtherPedal x, StringBuilder all) {
        all.append(" tape ").append(x.text());
        x.learner(0, 0);
        for (int text = 0; text < x.count(4); text++) {
            x.force(text);
            all.append(" text ").append(text);
            for (int what = 0; what < 5; what++) {
                all.append(' ').append(x.asks(0, 0, what));
            }
        }
    }

    private static void tellSheet(FootOnTheOtherPedal x, int sheet, StringBuilder all) {
        x.learner(0, 0);
        x.force(1);
        all.append(" sheet ").append(sheet).append(':');
        for (int item = 0; item <= 40; item++) {
            int value = itemOf(x, sheet, item);
            if (value < 0) {
                all.append(" ends by ").append(value);
                return;
            }
            all.append(' ').append(value);
        }
    }

    /** Its sort is that of the SHEET to which one item can be copied: the SKILL that stays is what the item is. */
    private static int itemOf(FootOnTheOtherPedal x, int sheet, int item) {
        int other = (sheet + 1) % 4;
        for (int sort = 0; sort < 3; sort++) {
            x.sheet(other, sort, 1);
            int copied = x.copy(sheet, item, other, 0, 1);
            if (copied == 1) {
                return 1000 * sort + x.tells(other, 0, 0, 5);
            }
            if (copied != -13) {
                return copied * 10 - sort;
            }
        }
        return -1;
    }
}
