/** Promises 6 to 8 and what "Terms" say of a TEXT, at its edges: each sentence by itself. */
public final class TextEdgeTest {
    private static final int BAD = FootOnTheOtherPedal.BAD, FULL = FootOnTheOtherPedal.FULL;
    private static final String REST = "; fades 1; nerves 1;";
    private static final String[] NAMES = {"skill", "hard", "help", "number", "day", "done"};
    private static final String[] KEYS = {"teaches", "fades", "nerves", "or", "and", "not"};
    private static final Due DUE = new Due();

    public static void main(String[] args) {
        theTapeHas160BytesAtMost();
        aByteIs0To255();
        tokensAreAsLongAsCanBe();
        wordsAreKeysOrNames();
        numbersHave4DigitsAtMost();
        blanksMayStandBetween();
        bytesThatBeginNoToken();
        theTextEndsTooEarly();
        nothingStandsBehindTheText();
        theFirstTokenThatCantStand();
        fiveAreOpenAtMost();
        whatIsClosedIsNotOpen();
        theFirstFaultIsTold();
        anEIsAnInt();
        answersAre1Or0();
        whatIsTaughtIsBounded();
        deepTexts();
        sixTextsAtMost();
        theTapeIsEmptyThen();
        textZeroIsTheRuleAtFirst();
        forceAtItsEdges();
        DUE.end();
    }

    private static int read(String tape) {
        return Due.text(new FootOnTheOtherPedal(), tape);
    }

    private static void whole(String tape) {
        DUE.is("7: whole: " + tape, read(tape), 1);
    }

    private static void fault(String tape, int place) {
        DUE.is("7: FAULT of " + tape, read(tape), -100 - place);
    }

    private static void theTapeHas160BytesAtMost() {
        FootOnTheOtherPedal x = new FootOnTheOtherPedal();
        Due.feed(x, "teaches 1; fades 2; nerves 3;" + " ".repeat(130));
        DUE.is("6: 159 bytes", x.count(5), 159);
        DUE.is("6: the 160th", x.feed(10), 160);
        DUE.is("6: the 161st", x.feed(32), FULL);
        DUE.is("6: still 160", x.count(5), 160);
        DUE.is("7: a text of 160 bytes", x.text(), 1);
        fault(" ".repeat(160), 160);
        fault(" ".repeat(159) + "x", 159);
        fault("teaches 1;" + " ".repeat(149) + "fades 1;", 159);
        // The 161st byte, an x that would be a FAULT, is not there.
        whole("teaches 1;" + " ".repeat(130) + "fades 2;nerves 345;\nx");
    }

    private static void aByteIs0To255() {
        FootOnTheOtherPedal x = new FootOnTheOtherPedal();
        DUE.is("6: below 0", x.feed(-1), BAD);
        DUE.is("6: above 255", x.feed(256), BAD);
        DUE.is("6: a letter by its lowest 8 bits is none", x.feed(256 + 't'), BAD);
        DUE.is("6: none came", x.count(5), 0);
        DUE.is("6: 0", x.feed(0), 1);
        DUE.is("6: 255", x.feed(255), 2);
    }

    private static void tokensAreAsLongAsCanBe() {
        fault("teachesskill" + REST, 0);
        fault("teaches skillhard" + REST, 8);
        fault("teaches 1or 2" + ";fades1;nerves;", 27);
        whole("teaches 1or 2and 3;fades 1;nerves 1;");
        fault("teaches 1 or2" + ";fades1;nerves", 27);
        fault("teaches 1 orskill" + REST, 10);
        fault("teaches notskill" + REST, 8);
        fault("teaches not-skill" + "; fades 1; nerves", 34);
        fault("teaches 12 34" + REST, 11);
        fault("teaches sk" + REST, 8);
        fault("teaches 1 = = 2" + REST, 12);
    }

    /** Each letter of each KEY and NAME matters, and so does how many there are. */
    private static void wordsAreKeysOrNames() {
        for (String name : NAMES) {
            whole("teaches " + name + REST);
            for (int k = 0; k < name.length(); k++) {
                fault("teaches " + changed(name, k) + REST, 8);
                fault("teaches " + name.substring(0, k) + name.substring(k + 1) + REST, 8);
            }
            fault("teaches " + name + "s" + REST, 8);
            fault("teaches x" + name + REST, 8);
            fault("teaches " + name.toUpperCase() + REST, 8);
            fault(name + " 1" + REST, 0);
        }
        for (String key : KEYS) {
            String[] tape = {"teaches not 1 or 1 and 1;", "fades 1;", "nerves 1;"};
            String all = tape[0] + tape[1] + tape[2];
            whole(all);
            int at = all.indexOf(key + " ");
            for (int k = 0; k < key.length(); k++) {
                fault(all.substring(0, at) + changed(key, k) + all.substring(at + key.length()), at);
            }
            fault(all.substring(0, at) + key + "s" + all.substring(at + key.length()), at);
        }
    }

    /** The word with its letter at k one on in the alphabet. */
    private static String changed(String word, int k) {
        return word.substring(0, k) + (char) (word.charAt(k) + 1) + word.substring(k + 1);
    }

    private static void numbersHave4DigitsAtMost() {
        String[] numbers = {"0", "9", "00", "99", "000", "999", "0000", "9999", "0123"};
        for (String number : numbers) {
            whole("teaches " + number + REST);
        }
        String[] longs = {"00000", "10000", "99999", "000000", "1234567890"};
        for (String number : longs) {
            fault("teaches " + number + REST, 8);
            fault("teaches 1 + " + number + REST, 12);
            // Where no NUMBER can stand it is a FAULT at the same place.
            fault("teaches 1 " + number + REST, 10);
            fault(number, 0);
        }
        fault("teaches 1234 5" + REST, 13);
    }

    private static void blanksMayStandBetween() {
        String[] tokens = {"teaches", "(", "8", "-", "done", ")", "*", "2", "<", "not", "help", "or", "1", "=", "2", ";"};
        String tape = "teaches ( 8 - done ) * 2 < 2 or not help = 2 ; fades 1 ; nerves 1 ;";
        whole(tape);
        whole(tape.replace(' ', '\n'));
        whole("\n" + tape.replace(" ", " \n ") + "\n");
        whole(tape.replace(" (", "(").replace("( ", "(").replace(" )", ")").replace(" - ", "-").replace(" ;", ";"));
        for (String token : tokens) {
            fault("\n  " + token + " %", token.equals("teaches") ? 11 : 3);
        }
    }

    /** What a byte is to the grammar if it stands right behind a NUMBER: the place of the FAULT, -1 if there is none. */
    private static int placeBehindNumber(int letter) {
        if (letter == 32 || letter == 10 || letter >= '0' && letter <= '9') {
            return -1;
        }
        return letter == ';' || letter == '+' || letter == '-' || letter == '*' || letter == '<' || letter == '=' ? 10 : 9;
    }

    private static void bytesThatBeginNoToken() {
        for (int letter = 0; letter < 256; letter++) {
            String one = Character.toString((char) letter);
            boolean blank = letter == 32 || letter == 10;
            int place = placeBehindNumber(letter);
            DUE.is("7: byte " + letter + " behind a number", read("teaches 8" + one + REST), place < 0 ? 1 : -100 - place);
            DUE.is("7: byte " + letter + " ahead of all", read(one + "teaches 8" + REST), blank ? 1 : -100);
            DUE.is("7: byte " + letter + " behind all", read("teaches 8" + REST + one), blank ? 1 : -129);
            DUE.is("7: byte " + letter + " in a word", read("tea" + one + "ches 8" + REST), -100);
            DUE.is("7: byte " + letter + " alone", read(one), blank ? -101 : -100);
        }
    }

    /** A text that is cut off: its FAULT is its size, or the WORD that is cut. */
    private static void theTextEndsTooEarly() {
        String tape = "teaches 8 - (done + number * help) ;\nfades 1 < skill or day ; nerves - 5 and hard ; ";
        int last = tape.lastIndexOf(';');
        for (int size = 0; size <= last; size++) {
            int place = size;
            boolean inWord = size > 0 && isLetter(tape.charAt(size - 1)) && isLetter(tape.charAt(size));
            while (inWord && place > 0 && isLetter(tape.charAt(place - 1))) {
                place--;
            }
            fault(tape.substring(0, size), place);
        }
        whole(tape.substring(0, last + 1));
        whole(tape);
        fault("teaches 8 \n  ", 13);
        fault("teaches 8; fades 1; nerves 1", 28);
        fault("teaches 8; fades 1; nerves 1 ", 29);
    }

    private static boolean isLetter(char c) {
        return c >= 'a' && c <= 'z';
    }

    private static void nothingStandsBehindTheText() {
        String tape = "teaches 8; fades 1; nerves 1; ";
        String[] more = {"teaches", "x", "7", "12345", ";", "(", ")", "%", "\0", "not", "skill", "teaches 8; fades 1; nerves 1;"};
        for (String behind : more) {
            fault(tape + behind, 30);
        }
        whole(tape);
        whole(tape + "\n\n  ");
    }

    /** Each TOKEN at each place: a FAULT there, or (it can stand) at the % that comes behind it. */
    private static void theFirstTokenThatCantStand() {
        String ones = " 7 skill hard help number day done - ( ";
        String more = " + - * ";
        String comparing = " < = ";
        String joints = " or and ";
        tokensAt("", " teaches ");
        tokensAt("teaches 8;", " fades ");
        tokensAt("teaches 8; fades 8;", " nerves ");
        tokensAt("teaches 8; fades 8; nerves 8;", " ");
        String[] begins = {"", "not", "(", "1 or", "1 and", "1 < 2 or", "1 = 2 and", "- (", "1 * ("};
        for (String begin : begins) {
            tokensAt("teaches " + begin, ones + " not ");
            tokensAt("teaches 8; fades " + begin, ones + " not ");
            tokensAt("teaches 8; fades 8; nerves " + begin, ones + " not ");
        }
        String[] onwards = {"1 +", "1 -", "1 *", "1 <", "1 =", "-", "1 + -", "1 * -", "not -", "not 1 <", "1 + 2 *"};
        for (String onward : onwards) {
            tokensAt("teaches " + onward, ones);
            tokensAt("teaches (" + onward, ones);
        }
        String[] sums = {"1", "skill", "-1", "1 + 2", "1 * 2", "(1)", "(1 < 2)", "not 1", "1 or 2", "1 < 2 or 3", "1 < 2 and 3"};
        for (String sum : sums) {
            tokensAt("teaches " + sum, more + comparing + joints + " ; ");
            tokensAt("teaches (" + sum, more + comparing + joints + " ) ");
        }
        String[] compared = {"1 < 2", "1 = 2", "not 1 < 2", "1 or 2 = 3", "1 < 2 and 3 < 4", "1 < (1 = 2)"};
        for (String both : compared) {
            tokensAt("teaches " + both, more + joints + " ; ");
            tokensAt("teaches (" + both, more + joints + " ) ");
        }
    }

    private static void tokensAt(String ahead, String canStand) {
        String all = " 7 skill hard help number day done teaches fades nerves or and not ( ) ; + - * < = ";
        for (String token : all.trim().split(" ")) {
            String tape = ahead + " " + token;
            boolean can = canStand.contains(" " + token + " ");
            fault(tape + " %", can ? tape.length() + 1 : ahead.length() + 1);
        }
    }

    /** All rows of ( , not and - that the grammar knows (a not can't come behind a -): five of them, and a sixth. */
    private static void fiveAreOpenAtMost() {
        opened("", 0, "");
    }

    private static void opened(String openers, int open, String closers) {
        String[] signs = {"(", "not ", "-"};
        if (open == 5) {
            whole("teaches " + openers + "1" + closers + ";fades 1;nerves 1;");
        }
        for (String sign : signs) {
            if (sign.equals("not ") && openers.endsWith("-")) {
                continue;
            }
            if (open == 5) {
                fault("teaches " + openers + sign + "1", 8 + openers.length());
            } else {
                opened(openers + sign, open + 1, sign.equals("(") ? ")" + closers : closers);
            }
        }
    }

    private static void whatIsClosedIsNotOpen() {
        String rest = ";fades 1;nerves 1;";
        whole("teaches (((((1))))) + (((((2))))) * -----3 < -----4 or not not not not not 5" + rest);
        whole("teaches -1 - -1 - -1 - -1 - -1 - -1 - -1" + rest);
        whole("teaches not 1 and not 1 and not 1 and not 1 and not 1 and not 1 or not 1" + rest);
        whole("teaches (1)+(1)+(1)+(1)+(1)+(1)+(1)" + rest);
        whole("teaches ((((1)+(1))+(1)*(2))+-(3))" + rest);
        // A - that is between two is no - ahead of a ONE.
        whole("teaches (((((1-2-3)))))-4" + rest);
        whole("teaches 1-----(2)" + rest);
        // A - ends with its ONE, a ( with its ), a not with all that is compared.
        whole("teaches -1*(((((2)))))" + rest);
        fault("teaches -(1*(((((2", 15);
        whole("teaches (1)*(((((2)))))" + rest);
        fault("teaches not 1*(((((2", 18);
        fault("teaches not 1<(((((2", 18);
        fault("teaches not 1+2=3*-----4", 22);
        whole("teaches not 1+2=3*----4" + rest);
        whole("teaches not 1 or (((((2)))))" + rest);
        whole("teaches not 1 and -----2" + rest);
        fault("teaches (not (1 and -(2 or -(3", 27);
        // What is open in one E is not open in the next.
        whole("teaches (((((1)))));fades (((((1)))));nerves -----1;");
    }

    private static void theFirstFaultIsTold() {
        fault("teaches ((((((1 % 12345 x", 13);
        fault("teaches 12345 ((((((", 8);
        fault("teaches 1 ) %", 10);
        fault("teaches % )", 8);
        fault("fades 1; %", 0);
        fault("teaches 8; x", 11);
        fault("teaches 8;; fades", 10);
    }

    /** What nerves are, by a LEARNER. */
    private static int nerve(String e) {
        FootOnTheOtherPedal x = Due.ruled("teaches 0;fades 0;nerves " + e + ";");
        x.learner(0, 9);
        return x.asks(0, 0, 4);
    }

    private static void anEIsAnInt() {
        String most = "(4634*4634*100+88*1000+47)";
        DUE.is("7: the greatest int", nerve(most), 99);
        DUE.is("7: it is below none that is 1 more", nerve(most + "<" + most + "+1"), 0);
        DUE.is("7: 1 more is below 0", nerve(most + "+1<0"), 1);
        DUE.is("7: 1 more is the least int", nerve("0-" + most + "-1=" + most + "+1"), 1);
        DUE.is("7: 1 less than the least int", nerve("-" + most + "-2=" + most), 1);
        DUE.is("7: the least int turned is the least int", nerve("-(" + most + "+1)<0"), 1);
        DUE.is("7: the least int is bounded", nerve(most + "+1"), -99);
        DUE.is("7: a product wraps", nerve("9999*9999*9999=-1"), 9999 * 9999 * 9999 == -1 ? 1 : 0);
        DUE.is("7: a product wraps", nerve("9999*9999*43"), 99);
        DUE.is("7: a product wraps below 0", nerve("9999*9999*22"), -99);
        DUE.is("7: 2 to the 32nd is 0", nerve("4096*4096*256"), 0);
        DUE.is("7: and false", nerve("not 4096*4096*256"), 1);
        DUE.is("7: 2 to the 31st is true", nerve("4096*4096*128 and 1"), 1);
    }

    private static void answersAre1Or0() {
        DUE.is("7: or", nerve("(7 or 9)*10"), 10);
        DUE.is("7: or of below 0", nerve("(-7 or 0)*10"), 10);
        DUE.is("7: or of none", nerve("(0 or 0)*10+3"), 3);
        DUE.is("7: and", nerve("(7 and 9)*10"), 10);
        DUE.is("7: and of below 0", nerve("(-1 and -2)*10"), 10);
        DUE.is("7: and of bits that differ", nerve("(1 and 2)*10"), 10);
        DUE.is("7: and of none", nerve("(0 and 9)*10+3"), 3);
        DUE.is("7: not", nerve("(not 9)*10+3"), 3);
        DUE.is("7: not of below 0", nerve("(not -1)*10+3"), 3);
        DUE.is("7: not of 0", nerve("(not 0)*10+3"), 13);
        DUE.is("7: less", nerve("(8<9)*10+3"), 13);
        DUE.is("7: not less", nerve("(9<9)*10+3"), 3);
        DUE.is("7: like", nerve("(9=9)*10+3"), 13);
        DUE.is("7: unlike", nerve("(9=8)*10+3"), 3);
    }

    private static void whatIsTaughtIsBounded() {
        int[][] all = {{98, 98, 98}, {99, 99, 99}, {100, 99, 99}, {9999, 99, 99}, {0, 0, 0}, {-1, 0, -1}, {-98, 0, -98},
            {-99, 0, -99}, {-100, 0, -99}, {-9999, 0, -99}};
        for (int[] row : all) {
            FootOnTheOtherPedal x = Due.ruled("teaches " + row[0] + ";fades " + row[0] + ";nerves " + row[0] + ";");
            x.learner(0, 0);
            for (int what = 0; what < 4; what++) {
                DUE.is("5: " + row[0] + " by what " + what, x.asks(0, 0, what), row[1]);
            }
            DUE.is("5: nerves " + row[0], x.asks(0, 0, 4), row[2]);
        }
    }

    /** As much waits as can: six levels, five joints in each. */
    private static void deepTexts() {
        String level = "0 or 1 and 1<1+1*(";
        DUE.is("7: the deepest", nerve(level.repeat(5) + "0 or 1 and 1<1+1*1" + ")".repeat(5)), 1);
        DUE.is("7: the deepest", nerve(level.repeat(5) + "0 or 1 and 1<1+1*0" + ")".repeat(5)), 0);
        DUE.is("7: the longest sum", nerve("1" + "+1".repeat(60)), 61);
        DUE.is("7: the longest product", nerve("1" + "*1".repeat(60)), 1);
        DUE.is("7: a long or", nerve("0" + " or 0".repeat(20) + " or 1"), 1);
        DUE.is("7: a long and", nerve("1" + " and 1".repeat(18) + " and 0"), 0);
    }

    private static void sixTextsAtMost() {
        FootOnTheOtherPedal x = new FootOnTheOtherPedal();
        DUE.is("7: text 0 is with them", x.count(4), 1);
        for (int k = 1; k < 6; k++) {
            DUE.is("7: a FAULT is no text", Due.text(x, "x"), -100);
            DUE.is("7: text " + k, Due.text(x, "teaches 1;fades 1;nerves 1;"), k);
            DUE.is("7: how many", x.count(4), k + 1);
        }
        Due.feed(x, "x");
        DUE.is("7: no more has room", x.text(), FULL);
        DUE.is("7: ahead of a FAULT: THE TAPE stays", x.count(5), 1);
        DUE.is("7: how many", x.count(4), 6);
    }

    private static void theTapeIsEmptyThen() {
        FootOnTheOtherPedal x = new FootOnTheOtherPedal();
        DUE.is("7: an empty tape", x.text(), -100);
        Due.feed(x, "teaches 1;fades 1;nerves 1;");
        DUE.is("6: how many it has", x.count(5), 27);
        DUE.is("7: a text", x.text(), 1);
        DUE.is("7: empty then", x.count(5), 0);
        DUE.is("7: nothing of it is there", x.text(), -100);
        Due.feed(x, "teaches");
        DUE.is("7: a FAULT", x.text(), -107);
        DUE.is("7: empty then, too", x.count(5), 0);
        DUE.is("7: nothing of it is there", Due.text(x, " 1;fades 1;nerves 1;"), -101);
    }

    private static void textZeroIsTheRuleAtFirst() {
        FootOnTheOtherPedal x = new FootOnTheOtherPedal();
        DUE.is("24: THE RULE", x.count(6), 0);
        x.learner(0, 0);
        int[] due = {8, 9, 10, 1, 5};
        for (int what = 0; what < 5; what++) {
            DUE.is("5: by text 0", x.asks(0, 0, what), due[what]);
        }
        x.set(3, 0, 8);
        DUE.is("5: 8 - done", x.asks(0, 0, 0), 0);
        DUE.is("5: 8 - done + help", x.asks(0, 0, 2), 2);
        x.set(3, 0, 9);
        DUE.is("5: below 0 is 0", x.asks(0, 0, 0), 0);
        DUE.is("5: 8 - done + help", x.asks(0, 0, 1), 0);
        DUE.is("5: 8 - done + help", x.asks(0, 0, 2), 1);
    }

    private static void forceAtItsEdges() {
        FootOnTheOtherPedal x = new FootOnTheOtherPedal();
        x.learner(0, 0);
        for (int k = 1; k < 6; k++) {
            DUE.is("8: none such yet", x.force(k), BAD);
            Due.text(x, "teaches 1" + k + ";fades 2" + k + ";nerves 3" + k + ";");
            DUE.is("8: the last that came; which was", x.force(k), k - 1);
            DUE.is("8: it teaches", x.asks(0, 0, 0), 10 + k);
            DUE.is("8: it fades", x.asks(0, 0, 3), 20 + k);
            DUE.is("8: its nerves", x.asks(0, 0, 4), 30 + k);
        }
        DUE.is("8: the first", x.force(0), 5);
        DUE.is("8: the same again", x.force(0), 0);
        DUE.is("8: a sixth", x.force(6), BAD);
        DUE.is("8: the first stays", x.count(6), 0);
    }
}
