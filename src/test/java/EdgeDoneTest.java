/** Who HEARS, what one SAYS, and promises 9 to 14: each sentence that names a boundary, with its edges. */
public final class EdgeDoneTest {

    private static final String SMALL = "h3,5;v11;s20 4;s8 2;w0 5 0;w2 10 0;";
    private static final String FULL_HOUSE = "h1,2,3,4,5,6,7,8;v9;s60 1;s59 2;s58 3;s57 4;s56 5;s55 6;"
        + "w0 0 0;w1 0 0;w2 0 0;w3 0 0;w4 0 0;w5 0 0;w8 0 0;";

    public static void main(String[] args) {
        hears();
        hearsTheTone();
        hearsFarOff();
        says();
        saysWithoutSounds();
        mornings();
        swornAsAllIsThen();
        morning();
        morningsAbove();
        move();
        wall();
        wind();
        drift();
        driftBounds();
        driftPasses();
        driftWithoutSounds();
        undoEach();
        undoRefused();
        undoOthers();
        undoTwenty();
        undoAround();
        undoAll();
        undoNone();
        Due.end("EdgeDoneTest");
    }

    // ---- section 2

    private static void hears() {
        String sentence = "Who is there HEARS it, if that is E or louder (for him)";
        Script.in("h0;s9 9;s10 8;s11 7;w0 10 0;", sentence, "morning 0 0 = 0", "told 8 = 0", "morning 1 0 = 1",
            "told 8 = 1", "morning 2 0 = 1", "says 0 0 0 = 0", "says 0 1 0 = 1", "deaf 0 = 3", "deaf 1 = 2");
        Script.in("h0;s0 1;w0 0 0;w1 0 0;w0 1 0;", sentence + ": 0", "morning 0 0 = 1", "morning 0 1 = 2",
            "comes 0 0 1 = 999");
        Script.in("h0;s29 1;s30 1;w0 30 0;", sentence + ": 30", "morning 0 0 = 0", "morning 1 0 = 1");
        Script.in("h0;s0 1;w0 0 0;w0 0 1;w0 0 2;w0 1 0;w0 1 1;w0 1 2;", sentence + ": whose he is is nothing to it",
            "morning 0 0 = 7", "told 8 = 7", "told 9 = 0");
    }

    private static void hearsTheTone() {
        String sentence = "he hears its TONE, if it is 5 louder than that, or more";
        Script.in("h0;s14 7;s15 6;s16 5;w0 10 0;", sentence, "morning 0 0 = 1", "told 9 = 0", "witness 0 3 = 1",
            "morning 1 0 = 1", "told 9 = 1", "witness 0 3 = 8", "morning 2 0 = 1", "told 9 = 1", "says 0 0 0 = 1",
            "says 0 1 0 = 8");
        Script.in("h0;s4 1;s5 9;s6 0;w0 0 0;w1 0 0;", sentence + ": E 0", "morning 0 0 = 3", "told 9 = 0",
            "morning 1 0 = 3", "told 9 = 1", "morning 2 0 = 3", "told 9 = 3", "says 0 1 0 = 11", "says 1 1 0 = 1",
            "says 1 2 0 = 2");
        Script.in("h0;s34 1;s35 1;w0 30 0;w0 30 1;w0 30 2;", sentence + ": E 30", "morning 0 0 = 7", "told 9 = 0",
            "morning 1 0 = 7", "told 9 = 7");
    }

    private static void hearsFarOff() {
        String sentence = "less the thickness of all WALLS between, less 1 for each PLACE further; WIND more .. to the right, less .. to the left";
        Script.in("h20,20,20,20,20,20,20,20;v0;s0 0;s60 0;w0 0 0;w8 0 0;", sentence, "comes 0 0 8 = 760",
            "comes 1 0 8 = 820", "comes 0 8 0 = 904", "comes 1 8 0 = 964", "comes 0 4 4 = 1000", "comes 1 8 8 = 1060",
            "comes 1 0 0 = 1060", "morning 1 0 = 1", "morning 1 8 = 2", "morning 1 4 = 1");
        Script.in("h0,0,0,0,0,0,0,0;v18;s60 0;", sentence, "comes 0 0 8 = 1124", "comes 0 8 0 = 980",
            "comes 0 3 4 = 1068", "comes 0 4 3 = 1050");
        Script.in("h1,2,4;v12;s30 0;", sentence, "comes 0 0 1 = 1031", "comes 0 1 2 = 1030", "comes 0 2 3 = 1028",
            "comes 0 0 3 = 1029", "comes 0 1 0 = 1025", "comes 0 2 1 = 1024", "comes 0 3 2 = 1022",
            "comes 0 3 0 = 1011", "comes 0 1 3 = 1028", "comes 0 3 1 = 1016");
    }

    private static void says() {
        String sentence = "the widower's men 2 and the TONE of SOUND 0, the brothers' 0; others 0, if they do not HEAR it, 2 and its TONE, if they hear that, else 1";
        Script.in("h0;s0 9;s60 0;w1 30 1;w0 0 2;w0 30 0;", sentence, "says 0 0 0 = 11", "says 0 1 0 = 11",
            "says 0 1 1 = 11", "says 1 0 0 = 0", "says 1 1 0 = 0", "says 2 0 0 = 0", "says 2 1 0 = 2",
            "morning 0 0 = 2", "witness 0 3 = 11", "witness 1 3 = 0", "witness 2 3 = 0", "morning 1 0 = 7",
            "told 9 = 7", "witness 0 3 = 11", "witness 1 3 = 0", "witness 2 3 = 2");
        Script.in("h0;s60 0;s60 9;w0 0 1;w0 0 0;", sentence, "says 0 0 0 = 2", "says 0 1 0 = 2", "says 1 0 0 = 2",
            "says 1 1 0 = 11");
    }

    private static void saysWithoutSounds() {
        String sentence = "the widower's men 2 and the TONE of SOUND 0 (0 in all, if there are no SOUNDS)";
        Script.in("h0;w0 0 1;", sentence, "say 0 0 = 1", "births -1 = 1", "births 0 = 100", "liars 100 = 0",
            "say 0 2 = 2", "liars 100 = 1");
        Script.in("h0;s0 0;w0 0 1;", sentence, "say 0 0 = 1", "liars 100 = 1", "say 0 2 = 2", "liars 100 = 1");
        // what an earlier house had as SOUND 0 is nothing to it
        Script.in("h0;s0 7;w0 0 1;", sentence, "text h0;w0 0 1;", "house = 2", "say 0 0 = 1", "liars 100 = 0");
    }

    private static void mornings() {
        String sentence = "MORNINGS are counted; the latest is kept";
        Script.in(SMALL, sentence, "told 5 = 0", "told 6 = NONE", "told 7 = NONE", "told 8 = 0", "told 9 = 0",
            "morning 0 2 = 3", "told 5 = 1", "told 6 = 0", "told 7 = 2", "told 8 = 3", "told 9 = 2", "morning 1 0 = 1",
            "told 5 = 2", "told 6 = 1", "told 7 = 0", "told 8 = 1", "told 9 = 0", "witness 0 3 = 1", "witness 1 3 = 0",
            "morning 1 1 = 0", "told 5 = 3", "told 8 = 0");
    }

    private static void swornAsAllIsThen() {
        String sentence = "it is SWORN what each SAYS, as all is then";
        Script.in(SMALL, sentence, "morning 0 0 = 3", "witness 0 3 = 6", "witness 1 3 = 1", "move 0 2", "move 1 0",
            "wall 0 20", "wall 1 20", "wind 0", "witness 0 3 = 6", "witness 1 3 = 1", "told 8 = 3", "told 9 = 1",
            "says 0 0 0 = 0", "says 1 0 0 = 6", "morning 0 0 = 2", "witness 0 3 = 0", "witness 1 3 = 6");
    }

    // ---- promises 9 to 12

    private static void morning() {
        String sentence = "A MORNING: who HEARS it (a SET). UNKNOWN";
        Script.in(FULL_HOUSE, sentence, "morning 0 0 = 127", "morning 5 8 = 127", "morning 5 0 = 127",
            "morning 6 0 = UNKNOWN", "morning 0 9 = UNKNOWN", "morning -1 0 = UNKNOWN", "morning 0 -1 = UNKNOWN",
            "told 5 = 3", "told 12 = 3");
        Script.in("h0;s60 9;", sentence + ": no WITNESSES", "morning 0 0 = 0", "morning 0 1 = 0", "told 5 = 2",
            "told 6 = 0", "told 7 = 1");
        Script.in("h0;w0 0 0;", sentence + ": no SOUNDS", "morning 0 0 = UNKNOWN", "told 5 = 0", "told 12 = 0");
    }

    private static void morningsAbove() {
        String sentence = "FULL: MORNINGS are above 9000";
        Script.in("h0;s9 1;w0 9 0;w1 9 0;", sentence, "149 times drift 60", "drift 59", "told 5 = 8999",
            "morning 0 0 = 1", "told 5 = 9000", "morning 0 1 = 2", "told 5 = 9001", "morning 0 0 = FULL",
            "drift 1 = FULL", "told 5 = 9001", "told 7 = 1", "told 8 = 2", "move 0 1 = 0", "wall 0 3 = 0", "wind 9",
            "undo = 19", "undo = 18", "undo = 17", "morning 0 0 = FULL", "undo = 16", "told 5 = 9000",
            "morning 0 0 = 1", "morning 0 0 = FULL", "keep 0", "goBack 0", "morning 0 0 = FULL", "text h0;s9 1;w0 9 0;",
            "house = 2", "told 5 = 0", "morning 0 0 = 1");
    }

    private static void move() {
        String sentence = "MOVED: where he was. UNKNOWN";
        Script.in(FULL_HOUSE, sentence, "move 6 0 = 8", "move 6 8 = 0", "move 6 8 = 8", "move 0 8 = 0",
            "move 7 0 = UNKNOWN", "move -1 0 = UNKNOWN", "move 6 9 = UNKNOWN", "move 6 -1 = UNKNOWN", "witness 6 0 = 8",
            "witness 5 0 = 5", "told 12 = 4");
    }

    private static void wall() {
        String sentence = "A WALL gets thickness T (0 .. 20; 0: BROKEN): what it was. UNKNOWN, OUTSIDE";
        Script.in(FULL_HOUSE, sentence, "wall 7 0 = 8", "thick 7 = 0", "comes 0 7 8 = 1059", "wall 7 20 = 0",
            "thick 7 = 20", "comes 0 7 8 = 1039", "wall 7 20 = 20", "wall 0 1 = 1", "wall 7 21 = OUTSIDE",
            "wall 7 -1 = OUTSIDE", "wall 8 0 = UNKNOWN", "wall -1 0 = UNKNOWN", "thick 6 = 7", "thick 7 = 20",
            "told 12 = 4");
    }

    private static void wind() {
        String sentence = "TURNED: WIND b less 9 (b 0 .. 18): what it was, and 9. OUTSIDE, NOT: no HOUSE";
        Script.in("h0;s20 1;", sentence, "wind 0 = 9", "comes 0 0 1 = 1010", "comes 0 1 0 = 1028", "wind 18 = 0",
            "comes 0 0 1 = 1028", "comes 0 1 0 = 1010", "wind 18 = 18", "wind 9 = 18", "comes 0 0 1 = 1019",
            "wind 19 = OUTSIDE", "wind -1 = OUTSIDE", "told 4 = 9", "told 12 = 4", "house = 0", "wind 9 = NOT",
            "wind 19 = OUTSIDE");
    }

    // ---- promise 13

    private static void drift() {
        // from THE SEED 0 it is drawn: 0 and 0 (sound, place) and 3 (wind), 0 and 0 and 2, 0 and 1 and 2
        String house = "h0;v18;s20 1;w0 20 0;w1 21 0;";
        String sentence = "in each a DRAW of SOUNDS, of PLACES: a MORNING of that, by WIND as it was; then a DRAW of 5 is WIND, less 2";
        Script.in(house, sentence, "drift 1 = 3", "told 4 = 10", "told 5 = 1", "told 6 = 0", "told 7 = 0", "told 8 = 3",
            "seed 0 = 654583775");
        Script.in(house, sentence, "drift 2 = 1", "told 4 = 9", "told 5 = 2", "told 7 = 0", "told 8 = 1",
            "witness 1 3 = 0", "seed 0 = 1109335178");
        Script.in(house, sentence, "drift 3 = 0", "told 4 = 9", "told 5 = 3", "told 7 = 1", "told 8 = 0",
            "seed 0 = 794471793");
        Script.in(house, sentence, "drift 1 = 3", "drift 1 = 1", "drift 1 = 0", "told 5 = 3", "seed 0 = 794471793",
            "told 12 = 3");
        // from THE SEED 77: 1 and 2 and 4, 1 and 1 and 4, 1 and 2 and 0
        Script.in(SMALL, sentence, "seed 77", "drift 1 = 0", "told 4 = 11", "told 6 = 1", "told 7 = 2", "drift 1",
            "told 4 = 11", "told 6 = 1", "told 7 = 1", "drift 1", "told 4 = 7", "told 6 = 1", "told 7 = 2",
            "seed 0 = 2106668122");
    }

    private static void driftBounds() {
        String sentence = "n MORNINGS (1 .. 60) BY DRAWS: who HEARD the latest (a SET; 0). OUTSIDE, NOT: no HOUSE";
        Script.in(SMALL, sentence, "drift 0 = OUTSIDE", "drift 61 = OUTSIDE", "drift -1 = OUTSIDE",
            "drift LEAST = OUTSIDE", "drift MOST = OUTSIDE", "told 5 = 0", "told 12 = 0", "seed 0 = 0", "drift 60",
            "told 5 = 60", "drift 1", "told 5 = 61", "told 12 = 2");
        Script.run(sentence, "drift 1 = NOT", "drift 60 = NOT", "drift 0 = OUTSIDE", "drift 61 = OUTSIDE");
        Script.in("h0;s60 1;", sentence + ": no WITNESSES", "drift 60 = 0", "told 5 = 60", "told 6 = 0");
    }

    private static void driftPasses() {
        String sentence = "FULL: MORNINGS are above 9000 as it is called (n may pass that)";
        Script.in("h0;s60 1;w0 0 0;", sentence, "150 times drift 60 = 1", "told 5 = 9000", "drift 60 = 1",
            "told 5 = 9060", "drift 1 = FULL", "morning 0 0 = FULL", "told 5 = 9060", "undo = 19", "told 5 = 9000",
            "drift 1 = 1", "told 5 = 9001", "drift 1 = FULL");
    }

    private static void driftWithoutSounds() {
        String sentence = "n MORNINGS, if there are SOUNDS";
        Script.in("h0;v15;w0 0 0;", sentence, "seed 5", "drift 1 = 0", "drift 60 = 0", "told 5 = 0", "told 4 = 15",
            "told 6 = NONE", "told 7 = NONE", "witness 0 3 = NONE", "seed 0 = 5", "told 12 = 2", "drift 61 = OUTSIDE",
            "undo = 1", "undo = 0", "told 4 = 15");
    }

    // ---- promise 14

    private static void undoEach() {
        String sentence = "the latest of morning(), move(), wall(), wind(), drift()";
        Script.in(SMALL, sentence, "morning 0 0", "told 12 = 1", "undo = 0", "told 5 = 0", "told 6 = NONE",
            "witness 0 3 = NONE");
        Script.in(SMALL, sentence, "move 1 0", "told 12 = 1", "undo = 0", "witness 1 0 = 2");
        Script.in(SMALL, sentence, "wall 1 0", "told 12 = 1", "undo = 0", "thick 1 = 5");
        Script.in(SMALL, sentence, "wind 0", "told 12 = 1", "undo = 0", "told 4 = 11");
        Script.in(SMALL, sentence, "seed 77", "drift 3", "told 12 = 1", "told 4 = 7", "undo = 0", "told 4 = 11",
            "told 5 = 0", "told 6 = NONE", "seed 0 = 2106668122");
        Script.in(SMALL, sentence + ": what was so already", "move 1 2 = 2", "wall 1 5 = 5", "wind 11 = 11",
            "told 12 = 3", "undo = 2", "undo = 1", "undo = 0");
    }

    private static void undoRefused() {
        Script.in(SMALL, "that was not refused", "wind 3", "morning 2 0 = UNKNOWN", "move 0 3 = UNKNOWN",
            "wall 2 0 = UNKNOWN", "wall 0 21 = OUTSIDE", "wind 19 = OUTSIDE", "drift 0 = OUTSIDE", "drift 61 = OUTSIDE",
            "told 12 = 1", "undo = 0", "told 4 = 11", "undo = NOT");
    }

    private static void undoOthers() {
        Script.in(SMALL, "UNDONE: nothing else", "seed 5", "say 0 1", "write 3", "tear", "say 1 0", "write 2",
            "feed 32", "told 12 = 0", "undo = NOT", "wall 0 0", "say 1 1", "write 1", "seed 9", "feed 32", "undo = 0",
            "told 3 = 2", "told 10 = 2", "told 11 = 2", "seed 0 = 9");
    }

    private static void undoTwenty() {
        String sentence = "20 at most are kept, the oldest are lost";
        Script script = Script.in("h20;", sentence);
        for (int n = 0; n <= 19; n++) {
            script.then("wall 0 " + n, "told 12 = " + (n + 1));
        }
        script.then("wall 0 20 = 19", "told 12 = 20");
        for (int n = 19; n >= 0; n--) {
            script.then("undo = " + n, "thick 0 = " + n);
        }
        script.then("undo = NOT", "thick 0 = 0");
        Script.in("h20;", sentence, "20 times wall 0 7", "told 12 = 20", "20 times undo", "thick 0 = 20", "undo = NOT");
        Script.in("h20;", sentence, "21 times wall 0 7", "told 12 = 20", "20 times undo", "thick 0 = 7", "undo = NOT");
    }

    private static void undoAround() {
        String sentence = "20 at most are kept (done and undone, over and over)";
        Script script = Script.in("h0;", sentence);
        int[] past = new int[400];
        int count = 0;
        int lost = 0;
        int thick = 0;
        int[] turns = {13, -5, 17, -9, 30, -20, 3, -1, 21, -19, 2, -2, 45, -7, 6};
        for (int turn : turns) {
            for (int n = 0; n < turn; n++) {
                past[count++] = thick;
                lost = Math.max(lost, count - 20);
                script.then("wall 0 " + (count * 7 + turn) % 21 + " = " + thick);
                thick = (count * 7 + turn) % 21;
            }
            for (int n = 0; n < -turn; n++) {
                thick = past[--count];
                script.then("undo = " + (count - lost), "thick 0 = " + thick);
            }
            script.then("told 12 = " + (count - lost));
        }
    }

    private static void undoAll() {
        String sentence = "all of section 2 is as ahead of it; THE SEED stays";
        Script script = Script.in(FULL_HOUSE, sentence, "morning 5 3 = 127");
        for (int n = 0; n < 8; n++) {
            script.then("wall " + n + " 20 = " + (n + 1));
        }
        for (int n = 0; n < 7; n++) {
            script.then("move " + n + " 7 = " + (n == 6 ? 8 : n));
        }
        script.then("wind 0 = 9", "seed 77 = 0", "drift 2", "seed 1 = 2070254191", "told 5 = 3", "17 times undo");
        for (int n = 0; n < 8; n++) {
            script.then("thick " + n + " = " + (n + 1));
        }
        for (int n = 0; n < 7; n++) {
            script.then("witness " + n + " 0 = " + (n == 6 ? 8 : n), "witness " + n + " 3 = 8");
        }
        script.then("told 4 = 9", "told 5 = 1", "told 6 = 5", "told 7 = 3", "told 8 = 127", "told 9 = 127",
            "told 12 = 1", "seed 0 = 1", "undo = 0", "told 5 = 0", "told 6 = NONE", "told 7 = NONE", "told 8 = 0",
            "told 9 = 0", "undo = NOT");
    }

    private static void undoNone() {
        String sentence = "how many more can be. NOT: none";
        Script.run(sentence, "undo = NOT");
        Script.in(SMALL, sentence, "undo = NOT", "wind 9", "wind 8", "undo = 1", "undo = 0", "undo = NOT",
            "told 4 = 11", "told 12 = 0", "wind 3", "keep 1", "undo = NOT", "wind 4", "goBack 1", "undo = NOT",
            "wind 5", "text h1;", "house = 2", "undo = NOT");
    }
}
