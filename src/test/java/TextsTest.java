/** Promises 6 to 8: feed, text, force. */
public final class TextsTest {
    private static final int BAD = FootOnTheOtherPedal.BAD, FULL = FootOnTheOtherPedal.FULL;
    private static final Due DUE = new Due();

    public static void main(String[] args) {
        feeds();
        faults();
        wholeTexts();
        expressions();
        textsAreFull();
        forces();
        DUE.end();
    }

    private static void feeds() {
        FootOnTheOtherPedal x = new FootOnTheOtherPedal();
        DUE.is("6: -1", x.feed(-1), BAD);
        DUE.is("6: 256", x.feed(256), BAD);
        for (int k = 1; k <= 160; k++) {
            DUE.is("6: byte " + k, x.feed(k == 1 ? 255 : k == 2 ? 0 : 'a'), k);
        }
        DUE.is("6: byte 161", x.feed(0), FULL);
        DUE.is("6: BAD ahead of FULL", x.feed(256), BAD);
        DUE.is("6: bytes", x.count(5), 160);
        DUE.is("7: byte 255 begins no token", x.text(), -100);
        DUE.is("7: empty then", x.count(5), 0);
        DUE.is("6: from the first on", x.feed(0), 1);
    }

    private static void fault(String tape, int place) {
        FootOnTheOtherPedal x = new FootOnTheOtherPedal();
        DUE.is("7: " + tape, Due.text(x, tape), -100 - place);
        DUE.is("7: empty behind " + tape, x.count(5), 0);
        DUE.is("7: no text more by " + tape, x.count(4), 1);
    }

    private static void faults() {
        fault("", 0);
        fault(" \n ", 3);
        fault("teaches", 7);
        fault("teaches 8", 9);
        fault("teaches 8 ;", 11);
        fault("teaches 8; fades 1; nerves 5", 28);
        fault("teaches 8; fades 1; nerves 5 \n", 30);
        fault("teaches 8; fades 1; nerves 5; 7", 30);
        fault("teaches 8; fades 1; nerves 5;;", 29);
        fault("teaches 8; nerves 5; fades 1;", 11);
        fault("Teaches 8;", 0);
        fault("teach 8;", 0);
        fault("teachess 8;", 0);
        fault("fades 1;", 0);
        fault(" ;", 1);
        fault("teaches ;", 8);
        fault("teaches 12345;", 8);
        fault("teaches 00001;", 8);
        fault("teaches 1 2;", 10);
        fault("teaches skillx;", 8);
        fault("teaches skill1;", 13);
        fault("teaches 5skill;", 9);
        fault("teaches skill hard;", 14);
        fault("teaches sk ill;", 8);
        fault("teaches 1 < 2 < 3;", 14);
        fault("teaches 1 = 2 < 3;", 14);
        fault("teaches 1 < not 2;", 12);
        fault("teaches 1 + not 2;", 12);
        fault("teaches 1 * ;", 12);
        fault("teaches + 1;", 8);
        fault("teaches * 1;", 8);
        fault("teaches or;", 8);
        fault("teaches 1 or and 2;", 13);
        fault("teaches 1 not 2;", 10);
        fault("teaches teaches;", 8);
        fault("teaches (1;", 10);
        fault("teaches 1);", 9);
        fault("teaches ();", 9);
        fault("teaches (1", 10);
        fault("teaches 1 % 2;", 10);
        fault("teaches\t8;", 7);
        fault("teaches 1 + \r 2;", 12);
        fault("teaches 1 > 2;", 10);
        fault("teaches 1 , 2;", 10);
        fault("teaches 1 / 2;", 10);
        fault("teaches 1 : 2;", 10);
        fault("teaches `;", 8);
        fault("teaches {;", 8);
        fault("teaches ((((((1))))));", 13);
        fault("teaches ------1;", 13);
        fault("teaches not not not not not not 1;", 28);
        fault("teaches (((((not 1)))));", 13);
        fault("teaches (((((-1)))));", 13);
        fault("teaches not -(not -(-1));", 19);
        fault("teaches (((((1))))) + ((((((1;", 27);
    }

    private static void whole(String tape) {
        FootOnTheOtherPedal x = new FootOnTheOtherPedal();
        DUE.is("7: " + tape, Due.text(x, tape), 1);
        DUE.is("7: empty behind " + tape, x.count(5), 0);
        DUE.is("7: a text more by " + tape, x.count(4), 2);
    }

    private static void wholeTexts() {
        whole("teaches 8;fades 1;nerves 5;");
        whole("\n teaches 8 ;\nfades 1 ; nerves 5 ; \n");
        whole("teaches(8);fades(1);nerves(5);");
        whole("teaches8;fades1;nerves5;");
        whole("teaches 0000; fades 9999; nerves 1;");
        whole("teaches (((((1))))) + (((((1))))); fades 1; nerves 5;");
        whole("teaches (((((1-1))))); fades -----1; nerves 1------1;");
        whole("teaches not not not not not 1 and not 1; fades not(not(not 1)); nerves (not 1) or not 2;");
        whole("teaches 1 < 2 or 3 = 4 and not 5 < 6; fades 1 <- 2; nerves 2--3;");
        StringBuilder tape = new StringBuilder("teaches 1");
        while (tape.length() < 141) {
            tape.append("*1");
        }
        tape.append(";fades 1;nerves 12;");
        whole(tape.toString());
        DUE.is("7: that had the most bytes", tape.length(), 160);
    }

    /** E is told by NERVE of a LEARNER (so -99 .. 99). */
    private static void tells(String e, int want) {
        FootOnTheOtherPedal x = Due.ruled("teaches 0; fades 0; nerves " + e + ";");
        x.learner(0, 7);
        DUE.is("7: " + e, x.asks(0, 0, 4), want);
    }

    private static void expressions() {
        tells("12", 12);
        tells("0012", 12);
        tells("number", 7);
        tells("2+3*4", 14);
        tells("2*3+4", 10);
        tells("2*3*4", 24);
        tells("10-3-4", 3);
        tells("10-(3-4)", 11);
        tells("-3*4", -12);
        tells("-3+4", 1);
        tells("-(3+4)", -7);
        tells("--3", 3);
        tells("2--3", 5);
        tells("2*-3", -6);
        tells("1<2", 1);
        tells("2<2", 0);
        tells("-1<0", 1);
        tells("2=2", 1);
        tells("2=3", 0);
        tells("1+1=2*1", 1);
        tells("not 0", 1);
        tells("not 7", 0);
        tells("not -7", 0);
        tells("not not 7", 1);
        tells("not 1=2", 1);
        tells("(not 1)=2", 0);
        tells("7 or 0", 1);
        tells("0 or -1", 1);
        tells("0 or 0", 0);
        tells("7 and 2", 1);
        tells("7 and 0", 0);
        tells("0 and 7", 0);
        tells("1 or 0 and 0", 1);
        tells("(1 or 0) and 0", 0);
        tells("not 0 and 0", 0);
        tells("not 0 or 1", 1);
        tells("1 or 1 or 0", 1);
        tells("1 and 2 and 3", 1);
        tells("1 and 2 and 0", 0);
        tells("9999*9999*9999<0", 1);
        tells("9999*9999*9999 + 9999*9999*100 + 9999 < 0", 0);
        tells("(1+(2*(3-(4*(5-6)))))", 15);
        tells("0 or 0 and (0 or 1 < 2 + 3 * (1 or 1 and 1 < 1 + 1 * (2)))", 0);
        tells("1 and (0 or 1 and 1 < 2 + 3 * (0 or 1 and 2 < 1 + 1 * (2)))", 1);
    }

    private static void textsAreFull() {
        FootOnTheOtherPedal x = new FootOnTheOtherPedal();
        for (int k = 1; k < 6; k++) {
            DUE.is("7: text " + k, Due.text(x, "teaches " + k + "; fades 1; nerves 5;"), k);
        }
        DUE.is("7: texts", x.count(4), 6);
        Due.feed(x, "ab");
        DUE.is("7: no room", x.text(), FULL);
        DUE.is("7: the tape stays", x.count(5), 2);
        DUE.is("7: and goes on", x.feed('c'), 3);
        x.learner(0, 0);
        for (int k = 1; k < 6; k++) {
            x.force(k);
            DUE.is("8: by text " + k, x.asks(0, 0, 0), k);
        }
    }

    private static void forces() {
        FootOnTheOtherPedal x = new FootOnTheOtherPedal();
        x.learner(0, 0);
        DUE.is("8: no text 1 yet", x.force(1), BAD);
        DUE.is("8: text -1", x.force(-1), BAD);
        DUE.is("8: text 6", x.force(6), BAD);
        DUE.is("8: itself", x.force(0), 0);
        Due.text(x, "teaches 31; fades 41; nerves 51;");
        DUE.is("8: a text is no rule yet", x.asks(0, 0, 0), 8);
        DUE.is("8: which was", x.force(1), 0);
        DUE.is("8: the rule", x.count(6), 1);
        DUE.is("8: learns", x.asks(0, 0, 0), 31);
        DUE.is("8: forgets", x.asks(0, 0, 3), 41);
        DUE.is("8: nerve", x.asks(0, 0, 4), 51);
        DUE.is("8: a fault", Due.text(x, "teaches 77; fades ;"), -118);
        DUE.is("8: leaves what is", x.asks(0, 0, 0), 31);
        DUE.is("8: refused", x.force(2), BAD);
        DUE.is("8: the rule stays", x.count(6), 1);
        DUE.is("8: back to the first", x.force(0), 1);
        DUE.is("8: help in it", x.asks(0, 0, 2), 10);
    }
}
