/** The edges of a way's text: its tokens, its three faults and their places, and what way() and fault() tell of them. */
public final class EdgeTextsTest {
    private static final Bench BENCH = new Bench("EdgeTextsTest");
    private static final int NONE = BeamPlate.NONE;

    public static void main(String[] args) {
        emptyTexts();
        fullTexts();
        numbers();
        keywords();
        signs();
        otherBytes();
        blanks();
        endOfText();
        whatCantStand();
        wrongSpeeds();
        wrongAgains();
        tooDeep();
        deepEnough();
        firstByPlace();
        leastAtOnePlace();
        wayNumbers();
        wayStays();
        faultLeavesNothing();
        faultWhats();
        BENCH.finish();
    }

    private static void right(String text) {
        BeamPlate p = new BeamPlate();
        BENCH.yes("8 " + text, Bench.way(p, 0, text));
        BENCH.due("9 no fault in " + text, p.fault(0), 0);
        BENCH.due("9 no place in " + text, p.fault(1), NONE);
    }

    private static void fault(String text, int kind, int place) {
        BeamPlate p = new BeamPlate();
        BENCH.no("8 " + text, Bench.way(p, 0, text));
        BENCH.due("9 the fault of " + text, p.fault(0), kind);
        BENCH.due("9 its place in " + text, p.fault(1), place);
    }

    private static int ticks(String text) {
        BeamPlate p = new BeamPlate();
        p.plate(3, 3, 0, 1);
        BENCH.yes("8 " + text, Bench.way(p, 0, text));
        return p.run(0);
    }

    private static String times(int count, String text) {
        return text.repeat(count);
    }

    // "TEXTS = {STEP ;}": none at all is a text.
    private static void emptyTexts() {
        BENCH.due("8 empty", ticks(""), 0);
        BENCH.due("8 one blank", ticks(" "), 0);
        BENCH.due("8 one line's end", ticks("\n"), 0);
        BENCH.due("8 blanks", ticks("  \n\n  "), 0);
        fault(";", 1, 0);
        fault(" ;", 1, 1);
        right("again 1 begin end;");
        fault("again 1 begin ; end;", 1, 14);
        fault("if x=x ;", 1, 7);
    }

    // The tape has 400 bytes at most, and a way may take them all.
    private static void fullTexts() {
        BENCH.due("8 of 400 bytes", ticks(times(57, "hold 1;") + " "), 57);
        BENCH.due("8 of 400 blanks", ticks(times(400, " ")), 0);
        BENCH.due("8 133 steps", ticks(times(131, "on;") + "hold 3;"), 3);
        // Nothing of a way's text makes more of it than ifs that stand close.
        String ifs = "if1=1if1=1if1=1if1=1on;";
        BENCH.due("8 close ifs", ticks(times(17, ifs) + "hold 4;"), 4);
        BENCH.due("8 a long sum", ticks("if 1" + times(190, "+1") + ">190hold 6;"), 6);
        BENCH.due("8 a long sum on the right", ticks("if190<1" + times(190, "+1") + "hold 6;"), 6);
        BENCH.due("8 a long sum is just so much", ticks("if191=1" + times(190, "+1") + "hold 6;"), 6);
        fault(times(133, "on;") + "o", 1, 399);
        fault(times(132, "on;") + "on  ", 1, 400);
        fault(times(399, " ") + "1", 1, 399);
        fault(times(400, ";"), 1, 0);
        fault(times(400, "x"), 1, 0);
        fault(times(400, "1"), 1, 0);
        fault("hold " + times(395, "1"), 1, 5);
        fault("if x" + times(198, "+x"), 1, 400);
        // As many tokens as 400 bytes may have before one of them can't stand there.
        fault("if1" + times(198, "+1") + "+", 1, 400);
        fault("if1" + times(198, "+1") + "=", 1, 400);
        fault("if1" + times(198, "+1") + ";", 1, 399);
    }

    // "digits as many as stand together NUMBERS of 1 to 4 digits or none"
    private static void numbers() {
        BENCH.due("8 0", ticks("hold 0;"), 0);
        BENCH.due("8 one digit", ticks("hold 9;"), 9);
        BENCH.due("8 two", ticks("hold 10;"), 10);
        BENCH.due("8 three", ticks("hold 123;"), 123);
        BENCH.due("8 four", ticks("hold 0123;"), 123);
        BENCH.due("8 four 0", ticks("hold 0000;"), 0);
        BENCH.due("8 9999 and no more", ticks("if 9999>9998 if 9999<9999+1 hold 1;"), 1);
        right("to 9999 9999; go east 9999; hold 9999;");
        fault("hold 00000;", 1, 5);
        fault("hold 00001;", 1, 5);
        fault("hold 10000;", 1, 5);
        fault("to 10000 1;", 1, 3);
        fault("to 1 10000;", 1, 5);
        fault("go east 10000;", 1, 8);
        fault("if 10000=1 on;", 1, 3);
        fault("if 1=10000 on;", 1, 5);
        fault("if 1+10000=1 on;", 1, 5);
        fault("hold 4294967297;", 1, 5);
        fault("speed 4294967297;", 1, 6);
        fault("hold 1 2;", 1, 7);
        fault("hold -1;", 1, 5);
        fault("hold;", 1, 4);
        fault("hold x;", 1, 5);
    }

    // "letters as many as stand together are KEYWORDS (those told here) or none"
    private static void keywords() {
        String[] steps = {"on", "off", "to 1 1", "go east 1", "go north 1", "go west 1", "go south 1", "hold 1", "speed 1",
            "again 1 begin end", "if hot=x on", "if y=tick on", "if cut=1 on"};
        for (String step : steps) {
            right(step + ";");
            fault("X" + step + ";", 1, 0);
            fault("x" + step + ";", 1, 0);
            fault(step.substring(0, 1).toUpperCase() + step.substring(1) + ";", 1, 0);
            fault(step.substring(0, 1) + " " + step.substring(1) + ";", 1, 0);
        }
        String[] none = {"o", "onn", "onoff", "t", "tog", "g", "hol", "holdd", "spee", "agai", "i", "iff", "ON", "oN", "onA",
            "onZ", "ona", "onz", "begin", "end", "east", "hot", "x", "y", "tick", "cut", "n", "f"};
        for (String word : none) {
            fault(word + ";", 1, 0);
        }
        fault("go eas 1;", 1, 3);
        fault("go easts 1;", 1, 3);
        fault("go East 1;", 1, 3);
        fault("if tic=1 on;", 1, 3);
        fault("if ticks=1 on;", 1, 3);
        fault("if X=1 on;", 1, 3);
        fault("again 1 begi end;", 1, 8);
        fault("again 1 begin ends;", 1, 14);
        fault("again 1 beginend;", 1, 8);
        right("hold1;to1 1;goeast 1;".replace("goeast", "go east"));
        fault("goeast 1;", 1, 0);
        fault("on1;", 1, 2);
        fault("hold 5on;", 1, 6);
    }

    // "; + - < = >"
    private static void signs() {
        right("if 1+1-1<1 on;if 1=1 on;if 1>1 on;");
        fault("if +1=1 on;", 1, 3);
        fault("if 1++1=1 on;", 1, 5);
        fault("if 1+-1=1 on;", 1, 5);
        fault("if 1-=1 on;", 1, 5);
        fault("if 1==1 on;", 1, 5);
        fault("if 1<>1 on;", 1, 5);
        fault("if 1=1=1 on;", 1, 6);
        fault("if 1=1- on;", 1, 8);
        fault("if 1 on;", 1, 5);
        fault("if =1 on;", 1, 3);
        fault("if 1= on;", 1, 6);
        fault("on;;", 1, 3);
        fault("on+", 1, 2);
        fault("<on;", 1, 0);
    }

    // What is no letter, no digit, no sign and no blank can't stand anywhere: also the neighbours of those that can.
    private static void otherBytes() {
        for (int b = 0; b < 256; b++) {
            boolean letter = b >= 'a' && b <= 'z' || b >= 'A' && b <= 'Z';
            boolean digit = b >= '0' && b <= '9';
            boolean blank = b == 32 || b == 10;
            if (blank) {
                right("on" + (char) b + ";");
                right((char) b + "on;" + (char) b);
            } else if (letter) {
                fault("on" + (char) b + ";", 1, 0);
                fault("on;" + (char) b, 1, 3);
            } else if (digit) {
                right("hold " + (char) b + ";");
                fault("on" + (char) b + ";", 1, 2);
            } else if (b == ';') {
                right("on" + (char) b);
            } else {
                fault("on" + (char) b + ";", 1, 2);
                fault("on;" + (char) b, 1, 3);
                fault((char) b + "on;", 1, 0);
            }
        }
    }

    // "Blanks (32, 10) between."
    private static void blanks() {
        right("\n go \n\n east  \n 3 \n;\n");
        right("if x=1on;");
        right("again 2begin on;end;");
        right("if x = 1 + 2 - y on ;");
        fault("ho ld 1;", 1, 0);
        fault("hold 1\n1;", 1, 7);
        fault("on\t;", 1, 2);
        fault("on\r\n;", 1, 2);
        fault("on" + (char) 160 + ";", 1, 2);
    }

    // "1 what can't stand there (the end: the text's length)"
    private static void endOfText() {
        String whole = "if x<1 again 2 begin go east 3; to 1 2; speed 4; hold 5; off; end;";
        for (int length = 1; length < whole.length(); length++) {
            String text = whole.substring(0, length);
            BeamPlate p = new BeamPlate();
            BENCH.no("9 " + text, Bench.way(p, 0, text));
            BENCH.due("9 the fault of " + text, p.fault(0), 1);
            boolean ends = p.fault(1) == length;
            boolean wordCutOff = p.fault(1) == text.lastIndexOf(' ') + 1 && Character.isLetter(text.charAt(length - 1));
            BENCH.yes("9 its place in " + text, ends || wordCutOff);
        }
        right(whole);
        fault("on", 1, 2);
        fault("on ", 1, 3);
        fault("on\n\n", 1, 4);
        fault("hold", 1, 4);
        fault("hold 1", 1, 6);
        fault("to 1 ", 1, 5);
        fault("go ", 1, 3);
        fault("speed ", 1, 6);
        fault("again", 1, 5);
        fault("again 3 ", 1, 8);
        fault("again 3 begin", 1, 13);
        fault("again 3 begin on; ", 1, 18);
        fault("again 3 begin on; end ", 1, 22);
        fault("if", 1, 2);
        fault("if x ", 1, 5);
        fault("if x+", 1, 5);
        fault("if x<", 1, 5);
        fault("if x<1 ", 1, 7);
        fault("if x<1 on ", 1, 10);
    }

    // "1 what can't stand there"
    private static void whatCantStand() {
        fault("end;", 1, 0);
        fault("on; end;", 1, 4);
        fault("begin on; end;", 1, 0);
        fault("again 1 begin on; end; end;", 1, 23);
        fault("again 1 begin again 1 begin end; end; end;", 1, 38);
        fault("again 1 begin on end;", 1, 17);
        fault("again 1 begin on; end on;", 1, 22);
        fault("again 1 on; end;", 1, 8);
        fault("again x begin end;", 1, 6);
        fault("if x=1 end;", 1, 7);
        fault("again 1 begin if x=1 end;", 1, 21);
        fault("again 1 begin if x=1 on; end; end;", 1, 30);
        fault("if x=1 begin", 1, 7);
        fault("if x=1; on;", 1, 6);
        fault("if on=1 on;", 1, 3);
        fault("if 1=off on;", 1, 5);
        fault("to 1;", 1, 4);
        fault("to 1 2 3;", 1, 7);
        fault("go 1 east;", 1, 3);
        fault("go east;", 1, 7);
        fault("go east x;", 1, 8);
        fault("go to 1;", 1, 3);
        fault("on off;", 1, 3);
    }

    // "2 (at the NUMBER) a SPEED that is not 1 .. 20"
    private static void wrongSpeeds() {
        right("speed 1;");
        right("speed 20;");
        right("speed 0001; speed 0020;");
        fault("speed 0;", 2, 6);
        fault("speed 21;", 2, 6);
        fault("speed 0000;", 2, 6);
        fault("speed 9999;", 2, 6);
        fault("speed  \n 0;", 2, 9);
        fault("speed 21", 2, 6);
        fault("if x=1 speed 0;", 2, 13);
        fault("again 1 begin speed 21; end;", 2, 20);
        right("hold 0; hold 21; to 0 21; go east 0; go west 21; if 0=21 on;");
    }

    // "2 (at the NUMBER) an again of 0 or above 99"
    private static void wrongAgains() {
        right("again 1 begin end;");
        right("again 99 begin end;");
        right("again 0099 begin end;");
        fault("again 0 begin end;", 2, 6);
        fault("again 100 begin end;", 2, 6);
        fault("again 9999 begin end;", 2, 6);
        fault("again 0000 begin end;", 2, 6);
        fault("again 0", 2, 6);
        fault("again 100;", 2, 6);
        fault("again 1 begin again 0 begin end; end;", 2, 20);
        fault("if 1=1 again 100 begin end;", 2, 13);
    }

    // "3 (at its KEYWORD) the 5th again, or if, that is open within others"
    private static void tooDeep() {
        String again = "again 1 begin ";
        String when = "if 1=1 ";
        fault(times(4, again) + "again 1 begin end;", 3, 56);
        fault(times(4, again) + "again", 3, 56);
        fault(times(4, again) + "if 1=1 on;", 3, 56);
        fault(times(4, again) + "on; again 1 begin end;", 3, 60);
        fault(times(4, when) + "if 1=1 on;", 3, 28);
        fault(times(4, when) + "if", 3, 28);
        fault(times(4, when) + "again 1 begin end;", 3, 28);
        for (int kinds = 0; kinds < 16; kinds++) {
            StringBuilder four = new StringBuilder();
            for (int i = 0; i < 4; i++) {
                four.append((kinds >> i & 1) == 0 ? again : when);
            }
            fault(four + "if 1=1 on;", 3, four.length());
            fault(four + "again 1 begin on; end;", 3, four.length());
        }
    }

    // Four may be open, and one that is closed is open no more.
    private static void deepEnough() {
        String ifs = times(4, "if 1=1 ");
        BENCH.due("8 four ifs", ticks(ifs + "hold 1;"), 1);
        BENCH.due("8 four ifs, many times", ticks(times(9, ifs + "hold 1;")), 9);
        BENCH.due("8 four agains", ticks(times(4, "again 2 begin ") + "hold 1;" + times(4, "end;")), 16);
        BENCH.due("8 agains beside one another", ticks(times(9, "again 2 begin hold 1; end;")), 18);
        String three = times(3, "again 1 begin ");
        BENCH.due("8 beside one another, within three",
            ticks(three + times(5, "again 2 begin hold 1; end;") + times(3, "end;")), 10);
        BENCH.due("8 ifs beside one another, within three", ticks(three + times(9, "if 1=1 hold 1;") + times(3, "end;")), 9);
        BENCH.due("8 an if is closed with its again",
            ticks("if 1=1 again 2 begin hold 1; end;" + times(4, "if 1=1 ") + "hold 1;"), 3);
        BENCH.due("8 four, mixed", ticks("if 1=1 again 2 begin if 1=1 again 2 begin hold 1; end; if 1=1 hold 1; end;"), 6);
        BENCH.due("8 four, closed, four", ticks(times(2, "if 1=1 again 2 begin if 1=1 again 2 begin hold 1; end; end;")), 8);
    }

    // "FAULTS, the first by its place"
    private static void firstByPlace() {
        fault("speed 0; on on;", 2, 6);
        fault("on on; speed 0;", 1, 3);
        fault("again 0 begin speed 21; end", 2, 6);
        fault("again 1 begin speed 21; end", 2, 20);
        fault("speed 0; " + times(5, "if 1=1 ") + "on;", 2, 6);
        fault(times(5, "if 1=1 ") + "speed 0;", 3, 28);
        fault(times(4, "if 1=1 ") + "speed 0; " + times(5, "if 1=1 "), 2, 34);
        fault("hold 12345 on;", 1, 5);
        fault("on; ! ?", 1, 4);
        fault("hold ! 12345", 1, 5);
        // What can't stand anywhere is found but where it stands, not ahead of what is in front of it.
        fault("speed 0; !", 2, 6);
        fault("on; on !", 1, 7);
        fault("on; on on !", 1, 7);
    }

    // "at one place the least"
    private static void leastAtOnePlace() {
        String four = times(4, "again 1 begin ");
        fault(four + "on again 1 begin end;", 1, four.length() + 3);
        fault(four + "on if 1=1 on;", 1, four.length() + 3);
        fault(four + "hold again", 1, four.length() + 5);
        fault(four + "if", 3, four.length());
        fault("speed 10000;", 1, 6);
        fault("again 10000 begin end;", 1, 6);
        fault("go 0;", 1, 3);
        fault("if 1=1 0;", 1, 7);
    }

    // Promise 8: "WAYS 0 .. 7"; "false: none such (fault() tells 0)"
    private static void wayNumbers() {
        BeamPlate p = new BeamPlate();
        p.plate(3, 3, 0, 1);
        for (int k = 0; k < 8; k++) {
            BENCH.yes("8 way " + k, Bench.way(p, k, "hold 1" + k + ";"));
        }
        int[] wrong = {-1, 8, Integer.MIN_VALUE, Integer.MAX_VALUE};
        for (int k : wrong) {
            Bench.way(p, 0, "on");
            BENCH.due("9 a fault ahead", p.fault(0), 1);
            BENCH.no("8 way " + k, Bench.way(p, k, "hold 99;"));
            BENCH.due("9 fault tells 0 of way " + k, p.fault(0), 0);
            BENCH.due("9 and no place", p.fault(1), NONE);
            BENCH.no("8 a faulty way " + k, Bench.way(p, k, "hold"));
            BENCH.due("9 fault tells 0 of a faulty way " + k, p.fault(0), 0);
        }
        for (int k = 0; k < 8; k++) {
            BENCH.due("8 each is as it was", p.run(k), 10 + k);
        }
    }

    // Promise 8: "The TAPE, empty then"; "or a FAULT (it stays; at first it is empty)"
    private static void wayStays() {
        BeamPlate p = new BeamPlate();
        p.plate(3, 3, 0, 1);
        BENCH.no("8 a fault at first", Bench.way(p, 2, "hold 5; hold"));
        BENCH.no("8 the tape is empty behind it", p.end(1));
        BENCH.due("8 at first it is empty", p.run(2), 0);
        BENCH.yes("8 a way", Bench.way(p, 2, "hold 5;"));
        BENCH.no("8 the tape is empty", p.end(1));
        String[] faulty = {"hold 7; hold", "speed 0;", times(5, "if 1=1 ") + "on;", "hold 7; ;"};
        for (String text : faulty) {
            BENCH.no("8 a fault", Bench.way(p, 2, text));
            BENCH.due("8 it stays", p.run(2), 5);
        }
        BENCH.yes("8 empty", p.way(2));
        BENCH.due("8 an empty one takes its place", p.run(2), 0);
        BENCH.yes("8 a longer one", Bench.way(p, 2, "hold 1; hold 2; hold 3;"));
        BENCH.yes("8 a shorter one", Bench.way(p, 2, "hold 4;"));
        BENCH.due("8 nothing of the longer one is left", p.run(2), 4);
        BENCH.due("8 no other way came", p.run(1) + p.run(3), 0);
        Bench.put(p, "hold 1; hold 2;");
        p.end(7);
        BENCH.yes("8 of the tape's first bytes alone", p.way(2));
        BENCH.due("8 these", p.run(2), 1);
    }

    // A text that breaks off with all four open leaves none of them open for the next text.
    private static void faultLeavesNothing() {
        BeamPlate p = new BeamPlate();
        p.plate(3, 3, 0, 1);
        String again = "again 2 begin ";
        String[] faulty = {times(4, again), times(4, again) + "again", times(4, "if 1=1 "), times(3, again) + "if 1=1 speed 0",
            again, "if 1=1 " + again + "on; end", "if 1", "if 1=1 again 100"};
        for (String text : faulty) {
            BENCH.no("8 " + text, Bench.way(p, 1, text));
            BENCH.due("8 four agains behind " + text, Bench.run(p, times(4, again) + "hold 1;" + times(4, "end;") + "hold 5;"), 21);
            BENCH.no("8 " + text, Bench.way(p, 1, text));
            BENCH.due("8 four ifs behind " + text, Bench.run(p, times(4, "if 1=1 ") + "hold 1; if 1=2 hold 7; hold 5;"), 6);
        }
        BENCH.due("8 nothing of them came", p.run(1), 0);
    }

    // Promise 9: "Of the latest way(): what 0 the FAULT (0 without one), 1 its place (NONE). NONE for another what."
    private static void faultWhats() {
        int[] others = {-1, 2, 3, Integer.MIN_VALUE, Integer.MAX_VALUE};
        BeamPlate p = new BeamPlate();
        BENCH.due("9 ahead of any way", p.fault(0), 0);
        BENCH.due("9 ahead of any way no place", p.fault(1), NONE);
        for (int what : others) {
            BENCH.due("9 ahead of any way what " + what, p.fault(what), NONE);
        }
        Bench.way(p, 0, "!");
        BENCH.due("9 a fault", p.fault(0), 1);
        BENCH.due("9 at place 0", p.fault(1), 0);
        for (int what : others) {
            BENCH.due("9 what " + what, p.fault(what), NONE);
        }
        Bench.put(p, "on; speed 0;");
        BENCH.due("9 it is of the latest way, not of the tape", p.fault(1), 0);
        p.sparks();
        BENCH.due("9 nor of the sparks", p.fault(0), 1);
        Bench.way(p, 1, "on; speed 0;");
        BENCH.due("9 another fault", p.fault(0), 2);
        BENCH.due("9 another place", p.fault(1), 10);
        Bench.way(p, 1, "on;");
        BENCH.due("9 without one", p.fault(0), 0);
        BENCH.due("9 without a place", p.fault(1), NONE);
    }
}
