/** THE HOUSE and its text, promises 1 to 8: each sentence that names a boundary, with its edges. */
public final class EdgeHouseTest {

    private static final String SMALL = "h3,5;v11;s20 4;s8 2;w0 5 0;w2 10 0;";

    public static void main(String[] args) {
        letters();
        walls();
        places();
        firstAndOnce();
        wind();
        sounds();
        witnesses();
        figures();
        numbersThatWrapAround();
        blanks();
        firstFault();
        endOfTheText();
        leastFault();
        cannotStand();
        everyLetterAsAWord();
        everyLetterInside();
        wrongNumber();
        noSuchPlace();
        onceTooOften();
        emptyText();
        newObject();
        feed();
        houseEmptiesTheText();
        houseForgets();
        houseAnswers();
        faultLeavesAllElse();
        fault();
        told();
        toldWithNoHouse();
        thick();
        sound();
        witness();
        Due.end("EdgeHouseTest");
    }

    private static void text(String sentence, String text, int house, int fault) {
        Script.text(sentence, text, house, fault);
    }

    // ---- the clauses

    private static void letters() {
        String sentence = "THE HOUSE is told in a text (240 letters at most)";
        text(sentence, "h1;" + " ".repeat(237), 2, Due.NONE);
        text(sentence, " ".repeat(237) + "h1;", 2, Due.NONE);
        text(sentence, "h1" + " ".repeat(237) + ";", 2, Due.NONE);
        text(sentence, " ".repeat(238) + "h1", -11, 240);
        text(sentence, " ".repeat(239) + "x", -11, 239);
        text(sentence, "h1;" + " ".repeat(236) + "v", -11, 240);
        Script.run(sentence, "text h1;", "237 times feed 32", "feed 120 = FULL", "told 3 = 240", "house = 2",
            "fault = NONE");
    }

    private static void walls() {
        String sentence = "'h' T {',' T} ';' (WALLS of thickness T, 0 .. 20, 1 to 8 of them";
        text(sentence, "h0;", 2, Due.NONE);
        text(sentence, "h20;", 2, Due.NONE);
        text(sentence, "h21;", -12, 1);
        text(sentence, "h0,20;", 3, Due.NONE);
        text(sentence, "h0,21;", -12, 3);
        text(sentence, "h0,0,0,0,0,0,0,20;", 9, Due.NONE);
        text(sentence, "h0,0,0,0,0,0,0,21;", -12, 15);
        text(sentence, "h;", -11, 1);
        text(sentence, "h1,;", -11, 3);
        text(sentence, "h,1;", -11, 1);
        text(sentence, "h1,,1;", -11, 3);
        text(sentence, "h1,1,1,1,1,1,1,1,1;", -11, 16);
        Script.in("h0,20;", sentence, "thick 0 = 0", "thick 1 = 20", "thick 2 = UNKNOWN");
        Script.in("h8,7,6,5,4,3,2,1;", sentence, "thick 0 = 8", "thick 1 = 7", "thick 2 = 6", "thick 3 = 5",
            "thick 4 = 4", "thick 5 = 3", "thick 6 = 2", "thick 7 = 1", "thick 8 = UNKNOWN");
    }

    private static void places() {
        String sentence = "PLACES are one more, WALL k between PLACES k and k and 1";
        StringBuilder text = new StringBuilder("h0");
        for (int walls = 1; walls <= 8; walls++) {
            Script.run(sentence, "text " + text + ";s0 0;", "house = " + (walls + 1), "told 0 = " + (walls + 1),
                "comes 0 0 " + walls + " = " + (1000 - walls), "comes 0 0 " + (walls + 1) + " = UNKNOWN",
                "thick " + (walls - 1) + " = 0", "thick " + walls + " = UNKNOWN");
            text.append(",0");
        }
        Script.in("h1,4,16;s30 0;", sentence, "comes 0 0 1 = 1028", "comes 0 1 2 = 1025", "comes 0 2 3 = 1013",
            "comes 0 0 3 = 1006", "comes 0 3 2 = 1013", "comes 0 2 1 = 1025", "comes 0 1 0 = 1028");
    }

    private static void firstAndOnce() {
        String sentence = "'h' .. first, once";
        text(sentence, "v9;h1;", -11, 0);
        text(sentence, "s1 1;h1;", -11, 0);
        text(sentence, "w0 0 0;h1;", -11, 0);
        text(sentence, " v9;", -11, 1);
        text(sentence, "h1;h1;", -13, 3);
        text(sentence, "h1;v9;s1 1;w0 0 0;h1;", -13, 18);
        text(sentence, "h1;v9;s1 1;w0 0 0;", 2, Due.NONE);
        text(sentence, "h1;w0 0 0;s1 1;v9;", 2, Due.NONE);
    }

    private static void wind() {
        String sentence = "'v' B ';' (WIND: B less 9, so B 0 .. 18; 0 untold; once)";
        Script.in("h0;v0;s20 0;", sentence, "told 4 = 0", "comes 0 0 1 = 1010", "comes 0 1 0 = 1028");
        Script.in("h0;v18;s20 0;", sentence, "told 4 = 18", "comes 0 0 1 = 1028", "comes 0 1 0 = 1010");
        Script.in("h0;v9;s20 0;", sentence, "told 4 = 9", "comes 0 0 1 = 1019", "comes 0 1 0 = 1019");
        Script.in("h0;s20 0;", sentence, "told 4 = 9", "comes 0 0 1 = 1019", "comes 0 1 0 = 1019");
        text(sentence, "h1;v19;", -12, 4);
        text(sentence, "h1;v;", -11, 4);
        text(sentence, "h1;v9;v9;", -13, 6);
        text(sentence, "h1;v9;s1 1;v9;", -13, 11);
        text(sentence, "h1;v 9 9;", -11, 7);
        Script.in("h0;v18;", sentence, "text h0;", "house = 2", "told 4 = 9", "text h0;v0;", "house = 2", "told 4 = 0");
    }

    private static void sounds() {
        String sentence = "'s' L N ';' (6 SOUNDS at most: LOUD L, 0 .. 60, of TONE N, 0 .. 9)";
        Script.in("h0;s0 0;s60 9;", sentence, "told 1 = 2", "sound 0 0 = 0", "sound 0 1 = 0", "sound 1 0 = 60",
            "sound 1 1 = 9", "sound 2 0 = UNKNOWN");
        text(sentence, "h0;s61 0;", -12, 4);
        text(sentence, "h0;s0 10;", -12, 6);
        text(sentence, "h0;s;", -11, 4);
        text(sentence, "h0;s1;", -11, 5);
        text(sentence, "h0;s1 1 1;", -11, 8);
        Script.in("h0;" + "s9 9;".repeat(6), sentence, "told 1 = 6", "sound 5 0 = 9", "sound 6 0 = UNKNOWN");
        text(sentence, "h0;" + "s9 9;".repeat(7), -13, 33);
        Script.in("h0;", sentence, "told 1 = 0", "sound 0 0 = UNKNOWN");
    }

    private static void witnesses() {
        String sentence = "'w' P E B ';' (7 WITNESSES at most: at PLACE P, hear what is E or louder, 0 .. 30; B 0, 1, 2)";
        Script.in("h0;w0 0 0;w1 30 2;w1 1 1;", sentence, "told 2 = 3", "witness 0 0 = 0", "witness 0 1 = 0",
            "witness 0 2 = 0", "witness 1 0 = 1", "witness 1 1 = 30", "witness 1 2 = 2", "witness 2 2 = 1",
            "witness 3 0 = UNKNOWN");
        text(sentence, "h0;w0 31 0;", -12, 6);
        text(sentence, "h0;w0 0 3;", -12, 8);
        text(sentence, "h0;w;", -11, 4);
        text(sentence, "h0;w0;", -11, 5);
        text(sentence, "h0;w0 0;", -11, 7);
        text(sentence, "h0;w0 0 0 0;", -11, 10);
        Script.in("h0;" + "w1 1 1;".repeat(7), sentence, "told 2 = 7", "witness 6 0 = 1", "witness 7 0 = UNKNOWN");
        text(sentence, "h0;" + "w1 1 1;".repeat(8), -13, 52);
        Script.in("h0;", sentence, "told 2 = 0", "witness 0 0 = UNKNOWN");
    }

    // ---- numbers and blanks

    private static void figures() {
        String sentence = "NUMBERS have one to three figures";
        text(sentence, "h5;", 2, Due.NONE);
        text(sentence, "h05;", 2, Due.NONE);
        text(sentence, "h005;", 2, Due.NONE);
        text(sentence, "h0005;", -12, 1);
        text(sentence, "h5,0005;", -12, 3);
        text(sentence, "h1;v009;", 2, Due.NONE);
        text(sentence, "h1;v0009;", -12, 4);
        text(sentence, "h1;s060 009;", 2, Due.NONE);
        text(sentence, "h1;s0060 9;", -12, 4);
        text(sentence, "h1;s60 0009;", -12, 7);
        text(sentence, "h1;w001 030 002;", 2, Due.NONE);
        text(sentence, "h1;w0001 30 2;", -12, 4);
        text(sentence, "h1;w1 0030 2;", -12, 6);
        text(sentence, "h1;w1 30 0002;", -12, 9);
        text(sentence, "h999;", -12, 1);
        text(sentence, "h1;s999 0;", -12, 4);
        Script.in("h017,008;v012;s059 007;w002 029 001;", sentence, "thick 0 = 17", "thick 1 = 8", "told 4 = 12",
            "sound 0 0 = 59", "sound 0 1 = 7", "witness 0 0 = 2", "witness 0 1 = 29", "witness 0 2 = 1");
    }

    /** Numbers that would be small again, were they reckoned in 8, 16, 32 or 64 bits. */
    private static void numbersThatWrapAround() {
        String sentence = "2 a NUMBER of four figures or more, or out of its bounds (that wraps around)";
        String[] wraps = {"256", "257", "65536", "65537", "4294967296", "4294967297", "18446744073709551616",
            "18446744073709551617", "0000000000", "00000000000000000000000001", "9".repeat(200), "0".repeat(200)};
        for (String number : wraps) {
            text(sentence, "h" + number + ";", -12, 1);
            text(sentence, "h1;v" + number + ";", -12, 4);
            text(sentence, "h1;s1 " + number + ";", -12, 6);
            text(sentence, "h1;w" + number + " 0 0;", -12, 4);
        }
    }

    private static void blanks() {
        String sentence = "blanks (32) may stand anywhere but within NUMBERS; two NUMBERS side by side need one";
        text(sentence, "h1,2;v9;s1 2;w0 1 2;", 3, Due.NONE);
        text(sentence, " h1,2;v9;s1 2;w0 1 2; ", 3, Due.NONE);
        text(sentence, "  h  1  ,  2  ;  v  9  ;  s  1  2  ;  w  0  1  2  ;  ", 3, Due.NONE);
        text(sentence, "h 1 , 2 , 3 , 4 ;", 5, Due.NONE);
        text(sentence, "h1 ,2 ,3 ,4;", 5, Due.NONE);
        text(sentence, "h1 0;", -11, 3);
        text(sentence, "h1,2 0;", -11, 5);
        text(sentence, "h1;v1 0;", -11, 6);
        text(sentence, "h1;s1 0 1;", -11, 8);
        text(sentence, "h1;s10;", -11, 6);
        text(sentence, "h1;w000;", -11, 7);
        text(sentence, "h1;w00 0;", -11, 8);
        text(sentence, "h1;w0 00;", -11, 8);
        text(sentence, "h1;w0,0 0;", -11, 5);
        for (char blank : new char[] {0, 9, 10, 11, 12, 13, 31, 33, 95, 127, 160, 255}) {
            text(sentence, blank + "h1;", -11, 0);
            text(sentence, "h" + blank + "1;", -11, 1);
            text(sentence, "h1" + blank + ";", -11, 2);
            text(sentence, "h1;" + blank, -11, 3);
            text(sentence, "h1;s1" + blank + "1;", -11, 5);
        }
    }

    // ---- faults

    private static void firstFault() {
        String sentence = "FAULTS, at the first letter that has one";
        text(sentence, "h21;x", -12, 1);
        text(sentence, "h1;x;h21;", -11, 3);
        text(sentence, "h1;h21;x", -13, 3);
        text(sentence, "h1;v19;h;", -12, 4);
        text(sentence, "h1;s61 10;", -12, 4);
        text(sentence, "h1;w2 31 3;", -12, 4);
        text(sentence, "h1;w1 31 3;", -12, 6);
        text(sentence, "h1;w1 30 3x", -12, 9);
        text(sentence, "h1,1,1,1,1,1,1,1,21,x", -11, 16);
        text(sentence, "h21,1,1,1,1,1,1,1,1;", -12, 1);
        text(sentence, "h1;" + "s1 1;".repeat(6) + "sx", -13, 33);
        text(sentence, "h1;" + "w0 0 0;".repeat(7) + "w9 9 9;", -13, 52);
    }

    private static void endOfTheText() {
        String sentence = "FAULTS .. (the end at the text's length)";
        String whole = "h1,2;v9;s1 2;w0 1 2;";
        for (int length = 1; length <= whole.length(); length++) {
            boolean ends = whole.charAt(length - 1) == ';';
            text(sentence, whole.substring(0, length), ends ? 3 : -11, ends ? Due.NONE : length);
            text(sentence, whole.substring(0, length) + "  ", ends ? 3 : -11, ends ? Due.NONE : length + 2);
        }
    }

    private static void leastFault() {
        String sentence = "of these the least";
        text(sentence, "h1h1;", -11, 2);
        text(sentence, "hh1;", -11, 1);
        text(sentence, "h1;v9v9;", -11, 5);
        text(sentence, "h1;v9;vv", -13, 6);
        text(sentence, "h1;s1 1h", -11, 7);
        text(sentence, "h1 1111;", -11, 3);
        text(sentence, "h1;s1 1 1111;", -11, 8);
        text(sentence, "h1;1111", -11, 3);
        text(sentence, "h1;v9;v1111;", -13, 6);
        text(sentence, "h1;" + "s1 1;".repeat(6) + "v9s", -11, 35);
        text(sentence, "h1;" + "w0 0 0;".repeat(7) + "v9w", -11, 54);
    }

    private static void cannotStand() {
        String sentence = "1 it cannot stand there (a letter that is no word, another word first than 'h'; a ninth T: at its ',')";
        text(sentence, "x", -11, 0);
        text(sentence, "h1;x", -11, 3);
        text(sentence, "h1;;", -11, 3);
        text(sentence, "h1;H1;", -11, 3);
        text(sentence, "h1;7", -11, 3);
        text(sentence, "v", -11, 0);
        text(sentence, "s", -11, 0);
        text(sentence, "w", -11, 0);
        text(sentence, "h1,1,1,1,1,1,1,1,1;", -11, 16);
        text(sentence, "h1,1,1,1,1,1,1,1,", -11, 16);
        text(sentence, "h1,1,1,1,1,1,1,1  ,99", -11, 18);
        text(sentence, "h1,1,1,1,1,1,1,1;", 9, Due.NONE);
        text(sentence, "h1;v9,", -11, 5);
        text(sentence, "h1;v-9;", -11, 4);
        text(sentence, "h+1;", -11, 1);
    }

    /** Each of the 256 letters where a word is due, as the first one and later. */
    private static void everyLetterAsAWord() {
        String sentence = "1 .. a letter that is no word";
        for (char letter = 0; letter < 256; letter++) {
            boolean blank = letter == ' ';
            text(sentence, "" + letter, blank ? 0 : -11, blank ? Due.NONE : letter == 'h' ? 1 : 0);
            boolean word = "vsw".indexOf(letter) >= 0;
            int house = blank ? 2 : letter == 'h' ? -13 : -11;
            text(sentence, "h1;" + letter, house, blank ? Due.NONE : word ? 4 : 3);
        }
    }

    /** Each of the 256 letters where a NUMBER is due, and where one has ended. */
    private static void everyLetterInside() {
        String sentence = "1 it cannot stand there (in a clause)";
        for (char letter = 0; letter < 256; letter++) {
            boolean blank = letter == ' ';
            boolean figure = letter >= '0' && letter <= '9';
            text(sentence, "h" + letter, -11, blank || figure ? 2 : 1);
            text(sentence, "h1;v" + letter, -11, blank || figure ? 5 : 4);
            int house = letter == ';' ? 2 : -11;
            int fault = letter == ';' ? Due.NONE : blank || letter == ',' || figure ? 3 : 2;
            text(sentence, "h1" + letter, house, fault);
            text(sentence, "h1;s1 1" + letter, figure ? -12 : house,
                letter == ';' ? Due.NONE : figure ? 6 : blank ? 8 : 7);
        }
    }

    private static void wrongNumber() {
        String sentence = "2 a NUMBER of four figures or more, or out of its bounds";
        text(sentence, "h 21 ;", -12, 2);
        text(sentence, "h0000", -12, 1);
        text(sentence, "h000", -11, 4);
        text(sentence, "h1, 21", -12, 4);
        text(sentence, "h1;v18;", 2, Due.NONE);
        text(sentence, "h1;v 19;", -12, 5);
        text(sentence, "h1;s60 9;", 2, Due.NONE);
        text(sentence, "h1;s 61 9;", -12, 5);
        text(sentence, "h1;s60  10;", -12, 8);
        text(sentence, "h1;w1 30 2;", 2, Due.NONE);
        text(sentence, "h1;w1  31 2;", -12, 7);
        text(sentence, "h1;w1 30  3;", -12, 10);
    }

    private static void noSuchPlace() {
        String sentence = "2 .. a PLACE that there is not (at its first)";
        StringBuilder text = new StringBuilder("h0");
        for (int walls = 1; walls <= 8; walls++) {
            text(sentence, text + ";w" + walls + " 0 0;", walls + 1, Due.NONE);
            text(sentence, text + ";w" + (walls + 1) + " 0 0;", -12, text.length() + 2);
            text.append(",0");
        }
        text(sentence, "h1;w 10 0 0;", -12, 5);
        text(sentence, "h1;w 999 0 0;", -12, 5);
        text(sentence, "h1;w0 0 0;w001 0 0;w 002 0 0;", -12, 21);
    }

    private static void onceTooOften() {
        String sentence = "3 'h', 'v' again, a seventh 's', an eighth 'w' (at it)";
        text(sentence, "h1;h", -13, 3);
        text(sentence, "h1;  h", -13, 5);
        text(sentence, "h1;v9;v", -13, 6);
        text(sentence, "h1;v9;  v", -13, 8);
        text(sentence, "h1;v0;v", -13, 6);
        text(sentence, "h1;" + "s1 1;".repeat(6), 2, Due.NONE);
        text(sentence, "h1;" + "s1 1;".repeat(6) + "s", -13, 33);
        text(sentence, "h1;" + "s1 1;".repeat(6) + " s", -13, 34);
        text(sentence, "h1;" + "w0 0 0;".repeat(7), 2, Due.NONE);
        text(sentence, "h1;" + "w0 0 0;".repeat(7) + "w", -13, 52);
        text(sentence, "h1;" + "w0 0 0;".repeat(7) + " w", -13, 53);
        text(sentence, "h1;" + "s1 1;".repeat(6) + "w0 0 0;".repeat(7) + "v9;", 2, Due.NONE);
    }

    private static void emptyText() {
        String sentence = "An empty text (or one of blanks alone) has no FAULT: no HOUSE";
        Script.run(sentence, "house = 0", "fault = NONE", "told 0 = 0");
        text(sentence, " ", 0, Due.NONE);
        text(sentence, " ".repeat(240), 0, Due.NONE);
        for (String blanks : new String[] {"", "   "}) {
            Script.in(SMALL, sentence, "text " + blanks, "house = 0", "fault = NONE", "told 0 = 0", "told 1 = 0",
                "told 2 = 0", "told 4 = 9", "thick 0 = UNKNOWN", "births -1 = NOT");
        }
    }

    // ---- promises 1 to 4

    private static void newObject() {
        Script.run("A new object: No HOUSE", "told 0 = 0", "told 1 = 0", "told 2 = 0", "told 3 = 0", "told 4 = 9",
            "told 5 = 0", "told 6 = NONE", "told 7 = NONE", "told 8 = 0", "told 9 = 0", "told 10 = 0", "told 11 = 0",
            "told 12 = 0", "fault = NONE", "judge = NONE", "tear = 0", "undo = NOT", "goBack 0 = NOT", "goBack 1 = NOT",
            "seed 0 = 0", "wind 9 = NOT", "births -1 = NOT");
    }

    private static void feed() {
        Script.run("One letter (a number 0 .. 255) comes behind THE TEXT: how many it has. OUTSIDE, FULL (240)",
            "feed -1 = OUTSIDE", "feed 256 = OUTSIDE", "feed LEAST = OUTSIDE", "feed MOST = OUTSIDE", "told 3 = 0",
            "feed 0 = 1", "feed 255 = 2", "feed 104 = 3", "told 3 = 3", "house = -11", "fault = 0", "feed 32 = 1");
        Script feed = Script.run("how many it has. FULL (240)");
        for (int n = 1; n <= 240; n++) {
            feed.then("feed 32 = " + n);
        }
        feed.then("feed 32 = FULL", "feed 0 = FULL", "feed 255 = FULL", "told 3 = 240", "house = 0", "feed 104 = 1");
    }

    private static void houseEmptiesTheText() {
        String sentence = "THE TEXT (it is empty then, with a FAULT, too)";
        Script.run(sentence, "text h1;", "house = 2", "told 3 = 0", "feed 32 = 1");
        Script.run(sentence, "text h1;x", "house = -11", "told 3 = 0", "feed 32 = 1");
        Script.run(sentence, "text h1", "house = -11", "text ;", "house = -11", "fault = 0");
        Script.run(sentence, "240 times feed 32", "house = 0", "told 3 = 0", "feed 32 = 1");
        Script.run(sentence, "text h1;v2;s9 9;", "house = 2", "text h2", "house = -11", "fault = 2");
    }

    private static void houseForgets() {
        String sentence = "no MORNINGS, none kept; nothing SAID, no BOOK; IMAGES, what could be undone are gone; THE SEED stays";
        String[] busy = {"seed 77", "wall 0 9", "keep 0", "move 0 1", "keep 1", "morning 0 1", "move 0 2", "wind 0",
            "say 0 3", "write 2"};
        String[] gone = {"told 3 = 0", "told 5 = 0", "told 6 = NONE", "told 7 = NONE", "told 8 = 0", "told 9 = 0",
            "told 10 = 0", "told 11 = 0", "told 12 = 0", "judge = NONE", "tear = 0", "undo = NOT", "goBack 0 = NOT",
            "goBack 1 = NOT", "seed 1 = 77"};
        Script.in(SMALL, sentence).then(busy).then("text " + SMALL, "house = 3").then(gone).then("told 4 = 11",
            "thick 0 = 3", "thick 1 = 5", "witness 0 0 = 0", "witness 0 3 = NONE", "witness 1 3 = NONE",
            "births -1 = 7");
        Script.in(SMALL, sentence).then(busy).then("text h7;w1 0 0;", "house = 2").then(gone).then("told 4 = 9",
            "thick 0 = 7", "thick 1 = UNKNOWN", "witness 0 0 = 1", "witness 0 3 = NONE", "witness 1 3 = UNKNOWN",
            "sound 0 0 = UNKNOWN");
        Script.in(SMALL, sentence).then(busy).then("house = 0").then(gone).then("told 4 = 9", "thick 0 = UNKNOWN",
            "witness 0 3 = UNKNOWN", "sound 0 0 = UNKNOWN");
    }

    private static void houseAnswers() {
        String sentence = "how many PLACES (no HOUSE: 0); -10 less the number of its FAULT";
        text(sentence, "", 0, Due.NONE);
        text(sentence, "h1;", 2, Due.NONE);
        text(sentence, "h1,1,1,1,1,1,1,1;", 9, Due.NONE);
        text(sentence, "x", -11, 0);
        text(sentence, "h21;", -12, 1);
        text(sentence, "h1;h", -13, 3);
    }

    private static void faultLeavesAllElse() {
        String[] busy = {"seed 77", "wall 0 9", "keep 0", "move 0 1", "keep 1", "morning 0 1", "move 0 2", "wind 0",
            "drift 2", "say 0 3", "write 2"};
        String[] wrong = {"x", "h", "h7,7,7;v1;s9 9;s8 8;s7 7;w1 1 1;x", "h21;", "h7;v2;s60 3;w0 9 0;w2", "h7;h",
            "h7;v1;v", "   5"};
        for (String text : wrong) {
            String sentence = "-10 less the number of its FAULT (all else is as it was): " + text;
            Script one = Script.in(SMALL, sentence).then(busy).then("text " + text);
            Due.due(sentence, one.call("house") < -10 ? 1 : 0, 1);
            Script.alike(one, Script.in(SMALL, sentence).then(busy));
            Script bare = Script.run(sentence, "seed 5", "keep 1", "write 3", "text " + text, "house");
            Script.alike(bare, Script.run(sentence, "seed 5", "keep 1", "write 3"));
        }
    }

    private static void fault() {
        Script.run("The place (from 0 on) of the letter that has the FAULT of the latest house(); NONE", "fault = NONE",
            "text x", "fault = NONE", "house = -11", "fault = 0", "fault = 0", "text h1;  h1;", "fault = 0",
            "house = -13", "fault = 5", "text h1;", "house = 2", "fault = NONE", "text h99", "house = -12", "fault = 1",
            "feed 256 = OUTSIDE", "fault = 1", "house = 0", "fault = NONE");
        text("the end at the text's length: 240", "h" + " ".repeat(239), -11, 240);
    }

    // ---- promises 5 to 8

    private static void told() {
        Script.in("h0;v11;s30 4;w0 5 0;w1 25 0;w1 30 0;", "told: 0 .. 12, OUTSIDE", "told 0 = 2", "told 1 = 1",
            "told 2 = 3", "told 3 = 0", "feed 32 = 1", "told 3 = 1", "told 4 = 11", "told 5 = 0", "told 6 = NONE",
            "told 7 = NONE", "told 8 = 0", "told 9 = 0", "morning 0 1 = 7", "told 5 = 1", "told 6 = 0", "told 7 = 1",
            "told 8 = 7", "told 9 = 3", "told 10 = 0", "say 2 0 = 1", "told 10 = 1", "told 11 = 0", "write 7 = 1",
            "told 11 = 1", "told 12 = 1", "told 13 = OUTSIDE", "told -1 = OUTSIDE", "told LEAST = OUTSIDE",
            "told MOST = OUTSIDE");
    }

    private static void toldWithNoHouse() {
        String sentence = "4 WIND, and 9 (no HOUSE: 9); 6, 7 NONE; 8, 9 SETS; 0";
        String[] none = {"told 0 = 0", "told 4 = 9", "told 6 = NONE", "told 7 = NONE", "told 8 = 0", "told 9 = 0"};
        Script.run(sentence, none);
        Script.in("h0;v18;s60 1;w0 0 0;", sentence, "told 4 = 18", "morning 0 1 = 1", "house = 0").then(none);
        Script.in("h0;v0;s60 1;w0 0 0;", sentence, "told 4 = 0", "morning 0 1 = 1", "told 6 = 0", "told 7 = 1",
            "undo = 0", "told 6 = NONE", "told 7 = NONE", "told 8 = 0", "told 9 = 0", "told 4 = 0");
        Script.in("h0;s0 1;w1 30 0;", sentence, "morning 0 0 = 0", "told 6 = 0", "told 7 = 0", "told 8 = 0",
            "told 9 = 0");
    }

    private static void thick() {
        Script.in("h3,20,0;", "Thickness of a WALL now. UNKNOWN", "thick 0 = 3", "thick 1 = 20", "thick 2 = 0",
            "thick 3 = UNKNOWN", "thick -1 = UNKNOWN", "wall 1 0", "thick 1 = 0", "wall 2 20", "thick 2 = 20", "undo",
            "thick 2 = 0", "thick LEAST = UNKNOWN", "thick MOST = UNKNOWN");
    }

    private static void sound() {
        Script.in("h3;s60 0;s0 9;", "Of a SOUND: what = 0 L, 1 N. UNKNOWN, OUTSIDE", "sound 0 0 = 60", "sound 0 1 = 0",
            "sound 1 0 = 0", "sound 1 1 = 9", "sound 0 2 = OUTSIDE", "sound 0 -1 = OUTSIDE", "sound 2 0 = UNKNOWN",
            "sound -1 1 = UNKNOWN", "sound 2 2 = UNKNOWN");
    }

    private static void witness() {
        Script.in("h3;s60 7;w1 30 2;w0 0 0;",
            "Of a WITNESS: what = 0 PLACE now, 1 E, 2 B, 3 what he SAID of the latest MORNING (none kept: NONE)",
            "witness 0 0 = 1", "witness 0 1 = 30", "witness 0 2 = 2", "witness 0 3 = NONE", "witness 1 3 = NONE",
            "witness 0 4 = OUTSIDE", "witness 0 -1 = OUTSIDE", "witness 2 0 = UNKNOWN", "witness -1 0 = UNKNOWN",
            "witness 2 4 = UNKNOWN", "move 0 0 = 1", "witness 0 0 = 0", "morning 0 0 = 3", "witness 0 3 = 0",
            "witness 1 3 = 9", "undo = 1", "witness 0 3 = NONE", "witness 1 3 = NONE", "undo = 0", "witness 0 0 = 1");
    }
}
