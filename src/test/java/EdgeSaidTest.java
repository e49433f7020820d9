/** What is SAID, promises 25 to 32: each sentence that names a boundary, with its edges. */
public final class EdgeSaidTest {

    // of sound 0 witness 0 says 6 6 1 (made at 0, 1, 2), witness 1 says 1 6 6; of sound 1: 1 0 0, and 0 0 0
    private static final String SMALL = "h3,5;v11;s20 4;s8 2;w0 5 0;w2 10 0;";
    private static final String MOST = "h0,0,0,0,0,0,0,0;" + "s60 9;".repeat(6) + "w0 0 0;w8 0 0;w0 0 1;w0 0 2;w1 0 0;w2 0 0;w3 0 0;";

    public static void main(String[] args) {
        say();
        saying();
        asAllStand();
        births();
        birthsOfNone();
        noSoundAtAll();
        liars();
        liarsOfAPair();
        leastLiars();
        leastLiarsAlike();
        ask();
        askAlike();
        askNone();
        write();
        tear();
        judge();
        judgeNoneKept();
        noHouse();
        Due.end("EdgeSaidTest");
    }

    // ---- promise 25

    private static void say() {
        String sentence = "SAID (8 at most): how much. UNKNOWN, OUTSIDE, FULL (8)";
        Script script = Script.in(MOST, sentence, "told 10 = 0");
        for (int n = 1; n <= 8; n++) {
            script.then("say " + (n - 1) % 7 + " 11 = " + n, "told 10 = " + n);
        }
        script.then("say 0 11 = FULL", "say 6 0 = FULL", "say 7 0 = UNKNOWN", "say 0 12 = OUTSIDE", "told 10 = 8",
            "tear = 8", "say 0 11 = 1");
        Script.in(SMALL, "SAID: the same by the same", "say 0 6 = 1", "say 0 6 = 2", "say 0 1 = 3", "told 10 = 3");
    }

    private static void saying() {
        Script.in(MOST, "a WITNESS SAYS (0 .. 11)", "say 0 0 = 1", "say 6 11 = 2", "say 0 12 = OUTSIDE",
            "say 0 -1 = OUTSIDE", "say 7 0 = UNKNOWN", "say -1 0 = UNKNOWN", "say 7 12 = UNKNOWN", "told 10 = 2",
            "tear", "say 0 11 = 1", "births -1 = 54", "say 0 0 = 2", "births -1 = 0");
    }

    private static void asAllStand() {
        String sentence = "of one and the same morning, as all stand when that is asked";
        Script.in(SMALL, sentence, "say 0 1", "births -1 = 2", "births 0 = 2", "births 1 = 10", "move 0 1",
            "births -1 = 2", "births 0 = 10", "births 1 = 11", "ask = NONE", "undo", "births 0 = 2", "wall 0 0",
            "births -1 = 3", "births 2 = 11", "wall 1 0", "births -1 = 2", "births 0 = 10", "liars 2 = 1", "undo",
            "liars 2 = 0", "undo", "births -1 = 2", "wind 18", "births -1 = 2", "births 0 = 1", "leastLiars 0 = 1",
            "undo", "leastLiars 0 = 2", "morning 0 2", "births -1 = 2", "say 1 0", "births -1 = 1", "births 0 = 10");
    }

    // ---- promise 26

    private static void births() {
        String sentence = "BIRTHS: i = NONE how many, else the i-th; NONE (i below NONE, too)";
        Script.in(SMALL, sentence, "births -1 = 7", "births 0 = 0", "births 1 = 1", "births 2 = 2", "births 3 = 10",
            "births 4 = 11", "births 5 = 12", "births 6 = 100", "births 7 = NONE", "births MOST = NONE",
            "births -2 = NONE", "births LEAST = NONE", "say 0 0", "births -1 = 3", "births 0 = 11", "births 1 = 12",
            "births 2 = 100", "births 3 = NONE", "births -2 = NONE", "say 1 6", "births -1 = 0", "births 0 = NONE");
        Script.in(MOST, sentence + ": the most", "births -1 = 55", "births 0 = 0", "births 8 = 8", "births 9 = 10",
            "births 44 = 48", "births 45 = 50", "births 53 = 58", "births 54 = 100", "births 55 = NONE");
        Script.in(SMALL, "BIRTHS: by which all that is SAID is so", "say 0 6", "births -1 = 2", "births 0 = 0",
            "births 1 = 1", "say 1 6", "births -1 = 1", "births 0 = 1", "births 1 = NONE", "6 times say 0 6",
            "births 0 = 1", "told 10 = 8", "say 0 0 = FULL", "births -1 = 1");
        Script.in(SMALL, "BIRTHS: all eight of SAID", "7 times say 0 0", "births -1 = 3", "say 1 6 = 8",
            "births -1 = 0");
    }

    private static void birthsOfNone() {
        String sentence = "BIRTHS: pairs of SOUND and PLACE (..; 100)";
        Script.in("h0;", sentence + ": no SOUNDS, no WITNESSES", "births -1 = 1", "births 0 = 100", "births 1 = NONE",
            "births -2 = NONE");
        Script.in("h0;s0 0;", sentence + ": no WITNESSES", "births -1 = 3", "births 0 = 0", "births 1 = 1",
            "births 2 = 100", "births 3 = NONE");
        Script.in("h0;w0 0 0;", sentence + ": no SOUNDS", "births -1 = 1", "births 0 = 100", "say 0 0", "births -1 = 1",
            "say 0 1", "births -1 = 0", "births 0 = NONE");
    }

    private static void noSoundAtAll() {
        String sentence = "100: no SOUND at all, of which all but the widower's men SAY 0";
        String house = "h0;s60 7;w0 0 0;w0 0 1;w0 0 2;";
        Script.in(house, sentence, "say 0 0", "births -1 = 1", "births 0 = 100", "say 1 9", "births 0 = 100", "say 2 0",
            "births 0 = 100", "liars 100 = 0");
        Script.in(house, sentence, "say 1 0", "births -1 = 0", "liars 100 = 1", "liars 0 = 1", "tear", "say 2 1",
            "births -1 = 0", "liars 100 = 1");
        Script.in(house, sentence, "say 0 9", "births -1 = 2", "births 1 = 1", "births 2 = NONE", "liars 100 = 1");
        Script.in("h0;w0 0 1;w0 0 2;w0 0 0;", sentence + ": no SOUNDS", "say 0 0", "say 1 0", "say 2 0",
            "births 0 = 100", "liars 100 = 0", "say 0 2", "births -1 = 0");
    }

    // ---- promises 27 and 28

    private static void liars() {
        String sentence = "LIARS of such a pair: how many of SAID are otherwise";
        Script.in(SMALL, sentence, "liars 0 = 0", "liars 100 = 0", "8 times say 0 11", "liars 0 = 8", "liars 12 = 8",
            "liars 100 = 8", "tear", "8 times say 0 6", "liars 0 = 0", "liars 1 = 0", "liars 2 = 8", "tear", "say 0 6",
            "say 1 6", "liars 0 = 1", "liars 1 = 0", "liars 2 = 1", "liars 10 = 2", "liars 100 = 2");
    }

    private static void liarsOfAPair() {
        Script.in(SMALL, "LIARS of a pair (10 times the SOUND and the PLACE; 100). UNKNOWN", "liars 0 = 0",
            "liars 2 = 0", "liars 3 = UNKNOWN", "liars 9 = UNKNOWN", "liars 10 = 0", "liars 12 = 0",
            "liars 13 = UNKNOWN", "liars 20 = UNKNOWN", "liars 22 = UNKNOWN", "liars 99 = UNKNOWN", "liars 100 = 0",
            "liars 101 = UNKNOWN", "liars 110 = UNKNOWN", "liars -1 = UNKNOWN", "liars -100 = UNKNOWN",
            "liars LEAST = UNKNOWN", "liars MOST = UNKNOWN");
        Script.in(MOST, "LIARS of a pair: the most", "liars 8 = 0", "liars 9 = UNKNOWN", "liars 58 = 0",
            "liars 59 = UNKNOWN", "liars 60 = UNKNOWN", "liars 100 = 0");
        Script.in("h0;", "LIARS of a pair: no SOUNDS", "liars 0 = UNKNOWN", "liars 100 = 0");
    }

    private static void leastLiars() {
        String sentence = "LEAST LIARS: what = 0 the pair, 1 how many. OUTSIDE";
        Script.in(SMALL, sentence, "leastLiars 0 = 0", "leastLiars 1 = 0", "leastLiars 2 = OUTSIDE",
            "leastLiars -1 = OUTSIDE", "leastLiars LEAST = OUTSIDE", "say 0 0", "leastLiars 0 = 11", "leastLiars 1 = 0",
            "say 1 6", "leastLiars 0 = 1", "leastLiars 1 = 1", "say 1 6", "leastLiars 0 = 1", "leastLiars 1 = 1",
            "say 0 1", "leastLiars 0 = 2", "leastLiars 1 = 1");
        Script.in(SMALL, sentence + ": eight", "8 times say 0 11", "leastLiars 0 = 0", "leastLiars 1 = 8");
        Script.in("h0;w0 0 0;", sentence + ": no SOUNDS", "leastLiars 0 = 100", "leastLiars 1 = 0", "say 0 9",
            "leastLiars 0 = 100", "leastLiars 1 = 1");
    }

    private static void leastLiarsAlike() {
        String sentence = "LEAST LIARS: the pair of fewest; of like ones the least";
        Script.in(SMALL, sentence, "say 1 6", "leastLiars 0 = 1", "leastLiars 1 = 0", "tear", "say 0 1",
            "leastLiars 0 = 2", "tear", "say 0 1", "say 1 0", "leastLiars 0 = 10");
        Script.in("h0;s60 1;w0 0 0;w1 0 0;", sentence + ": 100 is the last", "say 0 0", "leastLiars 0 = 100",
            "leastLiars 1 = 0", "say 1 3", "leastLiars 0 = 0", "leastLiars 1 = 1", "say 1 0", "leastLiars 0 = 100",
            "leastLiars 1 = 1");
    }

    // ---- promise 29

    private static void ask() {
        String sentence = "ASK: the WITNESS by whose SAYING BIRTHS are told apart best: the greatest part that is alike is least";
        // parts of 2, 2, 3 by witness 0, of 1, 2, 4 by witness 1
        Script.in(SMALL, sentence, "ask = 0", "say 0 6", "ask = 1", "tear", "say 1 0", "births -1 = 4", "ask = 0",
            "tear", "say 1 6", "births -1 = 2", "ask = 0");
        Script.in("h3,5;v11;s20 4;s8 2;w2 10 0;w0 5 0;", sentence + ": the last", "ask = 1");
        // parts of 2, 2, 1 by witness 1, of 4, 1 by the others
        Script.in("h0;s20 8;s20 9;w0 19 0;w0 5 0;w0 19 0;", sentence + ": of the highest tones", "ask = 1");
        // witness 0 says the same of four, witness 1 of two
        Script.in("h0;s20 9;s20 9;w0 0 0;w0 15 0;", sentence + ": a great part of the highest tone", "ask = 1");
        Script.in("h0;s20 8;s20 8;w0 0 0;w0 15 0;", sentence + ": a great part of the next tone", "ask = 1");
    }

    private static void askAlike() {
        String sentence = "ASK: of like ones the least";
        Script.in("h3,5;v11;s20 4;s8 2;w2 10 0;w0 5 0;w0 5 0;", sentence, "ask = 1", "move 1 2", "move 2 2", "ask = 1");
        Script.in("h0;s9 1;w0 0 0;w0 0 0;w1 0 0;w1 0 0;w0 0 0;w1 0 0;w0 0 0;", sentence + ": seven", "ask = 0",
            "7 times say 0 0", "ask = NONE");
    }

    private static void askNone() {
        String sentence = "ASK; NONE: none parts them";
        Script.in(SMALL, sentence + ": no BIRTHS", "say 0 6", "say 0 1", "births -1 = 0", "ask = NONE");
        Script.in(SMALL, sentence + ": one", "say 0 6", "say 1 6", "births -1 = 1", "ask = NONE");
        Script.in(SMALL, sentence + ": several", "say 0 0", "births -1 = 3", "ask = NONE");
        Script.in("h0;s60 1;", sentence + ": no WITNESSES", "births -1 = 3", "ask = NONE");
        Script.in("h0;s60 1;s50 2;w0 0 1;w0 0 2;", sentence + ": the paid", "births -1 = 5", "ask = NONE");
        Script.in("h0;s60 1;s50 2;w0 0 1;w0 0 2;w0 0 0;", sentence + ": all but one", "ask = 2");
        Script.in("h0;w0 0 0;", sentence + ": no SOUNDS", "births -1 = 1", "ask = NONE");
    }

    // ---- promises 30 to 32

    private static void write() {
        String sentence = "An entry behind THE BOOK (0 .. 7): how many. OUTSIDE, FULL (15)";
        Script script = Script.run(sentence, "write 8 = OUTSIDE", "write -1 = OUTSIDE", "write LEAST = OUTSIDE",
            "write MOST = OUTSIDE", "told 11 = 0");
        for (int n = 1; n <= 15; n++) {
            script.then("write " + n % 8 + " = " + n, "told 11 = " + n);
        }
        script.then("write 0 = FULL", "write 7 = FULL", "write 8 = OUTSIDE", "told 11 = 15", "tear = 15",
            "write 7 = 1");
    }

    private static void tear() {
        String sentence = "Nothing SAID, THE BOOK is empty: how much both had";
        Script.run(sentence, "tear = 0", "write 3", "tear = 1", "tear = 0");
        Script.in(SMALL, sentence, "tear = 0", "8 times say 0 0", "15 times write 1", "judge = 0", "births -1 = 3",
            "tear = 23", "told 10 = 0", "told 11 = 0", "judge = NONE", "births -1 = 7", "tear = 0", "say 0 0 = 1",
            "tear = 1", "write 0 = 1", "tear = 1", "told 12 = 0");
    }

    private static void judge() {
        String sentence = "WRONG: the first that is otherwise now; NONE";
        Script.in(SMALL, sentence, "morning 0 0 = 3", "judge = NONE", "write 2", "judge = NONE", "write 2", "write 1",
            "write 0", "judge = 2", "morning 1 0 = 1", "judge = 0", "undo", "judge = 2", "keep 0", "morning 1 1 = 0",
            "judge = 0", "goBack 0", "judge = 2");
        Script.in(SMALL, sentence + ": the last", "morning 0 0 = 3", "14 times write 2", "judge = NONE", "write 3 = 15",
            "judge = 14");
        Script.in(SMALL, sentence + ": all", "morning 0 0 = 3", "15 times write 2", "judge = NONE", "move 0 2",
            "wall 1 20", "wind 0", "judge = NONE");
        Script.in("h0;s60 1;" + "w0 0 0;".repeat(7), sentence + ": 7", "morning 0 0 = 127", "write 7", "judge = NONE",
            "write 6", "judge = 1");
    }

    private static void judgeNoneKept() {
        String sentence = "how many WITNESSES HEARD the latest MORNING (none kept: 0)";
        Script.run(sentence + ": no HOUSE", "judge = NONE", "write 0", "judge = NONE", "write 1", "judge = 1");
        Script.in(SMALL, sentence, "write 0", "judge = NONE", "write 2", "judge = 1", "morning 0 0 = 3", "judge = 0",
            "undo", "judge = 1");
        Script.in(SMALL, sentence + ": HEARD by none", "morning 1 2 = 0", "write 0", "judge = NONE", "write 1",
            "judge = 1");
    }

    private static void noHouse() {
        Script.run("NOT: no HOUSE", "births -1 = NOT", "births 0 = NOT", "births -2 = NOT", "liars 100 = NOT",
            "liars 0 = UNKNOWN", "leastLiars 0 = NOT", "leastLiars 1 = NOT", "leastLiars 2 = OUTSIDE", "ask = NOT",
            "say 0 0 = UNKNOWN", "text h0;", "house = 2", "births -1 = 1", "liars 100 = 0", "leastLiars 0 = 100",
            "ask = NONE", "house = 0", "births -1 = NOT", "liars 100 = NOT", "leastLiars 0 = NOT", "ask = NOT");
    }
}
