/** THE SEED, IMAGES, promises 33 to 35, and how long an object is used. */
public final class EdgeDrawsTest {

    private static final String SMALL = "h3,5;v11;s20 4;s8 2;w0 5 0;w2 10 0;";

    public static void main(String[] args) {
        seed();
        seedBounds();
        seedWrapsAround();
        seedStays();
        keep();
        keepAll();
        keepNothingElse();
        nothingCanBeUndone();
        goBack();
        imagesOfNoHouse();
        calls();
        Due.end("EdgeDrawsTest");
    }

    // ---- the seed

    private static void seed() {
        Script.run("THE SEED (0 at first)", "seed 5 = 0", "seed 6 = 5");
        Script.in("h0;s60 1;", "THE SEED (0 at first: each DRAW it becomes it times 1103515245 and 12345)", "drift 1",
            "seed 0 = 654583775");
        Script.in("h0;s60 1;", "THE SEED: a DRAW of one is one, too", "seed 1", "drift 1", "seed 0 = 662824084");
        Script.in("h0;s60 1;", "THE SEED: 180 DRAWS", "drift 60", "seed 0 = " + seedAfter(0, 180));
    }

    private static long seedAfter(long seed, int draws) {
        for (int n = 0; n < draws; n++) {
            seed = (seed * 1103515245L + 12345L) % 2147483648L;
        }
        return seed;
    }

    private static void seedBounds() {
        Script.run("THE SEED becomes v (0 .. 2147483647): what it was. OUTSIDE", "seed 0 = 0", "seed MOST = 0",
            "seed -1 = OUTSIDE", "seed LEAST = OUTSIDE", "seed 2147483646 = 2147483647", "seed 0 = 2147483646",
            "seed -1 = OUTSIDE", "seed 1 = 0");
    }

    private static void seedWrapsAround() {
        String sentence = "left over by 2 to the 31; the DRAW of n is it / 65536, left over by n";
        Script.in(SMALL, sentence, "seed MOST", "drift 1", "told 6 = 1", "told 7 = 2", "told 4 = 9",
            "seed 0 = 646343466");
        int[] seeds = {2147483646, 1073741824, 1610612736, 1103515245, 65535, 65536, 2147418112};
        for (int seed : seeds) {
            long sound = seedAfter(seed, 1) / 65536 % 2;
            long place = seedAfter(seed, 2) / 65536 % 3;
            long wind = seedAfter(seed, 3) / 65536 % 5 - 2 + 9;
            Script.in(SMALL, sentence, "seed " + seed, "drift 1", "told 6 = " + sound, "told 7 = " + place,
                "told 4 = " + wind, "seed 0 = " + seedAfter(seed, 3), "seed " + seed, "drift 60",
                "seed 0 = " + seedAfter(seed, 180));
        }
    }

    private static void seedStays() {
        Script.in(SMALL, "UNDONE: THE SEED stays", "seed 77", "drift 1", "undo = 0", "seed 77 = 1289087568", "drift 1",
            "seed 3", "undo = 0", "seed 4 = 3", "undo = NOT", "seed 5 = 4");
        Script.in(SMALL, "house(): THE SEED stays", "seed 9", "house = 0", "seed 9 = 9", "text x", "house = -11",
            "seed 9 = 9", "text h1;", "house = 2", "seed 9 = 9");
    }

    // ---- images

    private static void keep() {
        String sentence = "IMAGE i becomes what is so: 1. UNKNOWN";
        Script.in(SMALL, sentence, "keep 0 = 1", "keep 1 = 1", "keep 2 = UNKNOWN", "keep -1 = UNKNOWN",
            "keep LEAST = UNKNOWN", "keep MOST = UNKNOWN", "wind 0", "keep 0 = 1", "wind 1", "keep 1 = 1", "wind 2",
            "goBack 0 = 1", "told 4 = 0", "goBack 1 = 1", "told 4 = 1", "goBack 0 = 1", "told 4 = 0", "keep 1 = 1",
            "wind 5", "goBack 1 = 1", "told 4 = 0");
    }

    private static void keepAll() {
        String sentence = "IMAGES 0, 1 keep all of section 2, THE SEED";
        String house = "h1,2,3,4,5,6,7,8;s60 1;w0 0 0;w1 0 0;w2 0 0;w3 0 0;w4 0 0;w5 0 0;w8 0 0;";
        for (int i = 0; i < 2; i++) {
            Script script = Script.in(house, sentence, "wind 12", "morning 0 4 = 127", "seed 55", "keep " + i + " = 1");
            for (int n = 0; n < 8; n++) {
                script.then("wall " + n + " 20");
            }
            for (int n = 0; n < 7; n++) {
                script.then("move " + n + " 7");
            }
            script.then("drift 9", "seed 5", "wind 0", "goBack " + i + " = 1", "told 4 = 12", "told 5 = 1",
                "told 6 = 0", "told 7 = 4", "told 8 = 127", "told 9 = 127", "told 12 = 0", "seed 9 = 55", "undo = NOT");
            for (int n = 0; n < 8; n++) {
                script.then("thick " + n + " = " + (n + 1));
            }
            for (int n = 0; n < 7; n++) {
                script.then("witness " + n + " 0 = " + (n == 6 ? 8 : n), "witness " + n + " 3 = 3");
            }
        }
        Script.in(SMALL, sentence + ": no MORNING", "keep 0", "morning 0 0", "goBack 0", "told 5 = 0", "told 6 = NONE",
            "told 7 = NONE", "told 8 = 0", "witness 0 3 = NONE");
    }

    private static void keepNothingElse() {
        Script.in(SMALL, "IMAGES keep all of section 2, THE SEED (and nothing else)", "say 0 1", "write 3", "text h1",
            "keep 0 = 1", "say 0 1", "say 1 1", "write 4", "feed 59", "goBack 0 = 1", "told 10 = 3", "told 11 = 2",
            "told 3 = 3", "tear = 5", "goBack 0 = 1", "told 10 = 0", "told 11 = 0", "house = 2", "fault = NONE");
    }

    private static void nothingCanBeUndone() {
        String sentence = "(nothing can be undone then)";
        Script.in(SMALL, sentence, "wind 0", "wind 1", "keep 0 = 1", "told 12 = 0", "undo = NOT", "told 4 = 1",
            "wind 2", "undo = 0", "told 4 = 1", "undo = NOT");
        Script.in(SMALL, sentence, "keep 1", "wind 0", "wind 1", "goBack 1 = 1", "told 12 = 0", "undo = NOT",
            "told 4 = 11", "wind 2", "told 12 = 1", "undo = 0", "told 4 = 11", "undo = NOT");
        Script.in(SMALL, sentence + ": not by a refused one", "wind 0", "keep 2 = UNKNOWN", "goBack 2 = UNKNOWN",
            "goBack 0 = NOT", "goBack 1 = NOT", "told 12 = 1", "undo = 0", "told 4 = 11");
        Script.in(SMALL, sentence + ": of 20", "25 times wind 0", "keep 0", "undo = NOT", "20 times wind 1",
            "told 12 = 20", "20 times undo", "told 4 = 0", "undo = NOT");
    }

    private static void goBack() {
        String sentence = "What is so becomes IMAGE i: 1. UNKNOWN, NOT: it was not kept";
        Script.in(SMALL, sentence, "goBack 0 = NOT", "goBack 1 = NOT", "goBack 2 = UNKNOWN", "goBack -1 = UNKNOWN",
            "goBack LEAST = UNKNOWN", "goBack MOST = UNKNOWN", "keep 0", "goBack 1 = NOT", "goBack 0 = 1",
            "goBack 0 = 1", "keep 1", "goBack 1 = 1", "text h0", "house = -11", "goBack 0 = 1", "goBack 1 = 1",
            "text h0;", "house = 2", "goBack 0 = NOT", "goBack 1 = NOT", "keep 1 = 1", "goBack 0 = NOT", "goBack 1 = 1",
            "house = 0", "goBack 0 = NOT", "goBack 1 = NOT");
        // an IMAGE is not what is done after it was gone back to
        Script.in(SMALL, sentence, "keep 0", "goBack 0", "wall 0 20", "move 0 2", "morning 0 0", "goBack 0",
            "thick 0 = 3", "witness 0 0 = 0", "told 5 = 0");
    }

    private static void imagesOfNoHouse() {
        Script.run("IMAGES of no HOUSE", "goBack 0 = NOT", "goBack 1 = NOT", "seed 6", "keep 0 = 1", "keep 1 = 1",
            "keep 2 = UNKNOWN", "seed 7", "goBack 0 = 1", "seed 8 = 6", "goBack 1 = 1", "seed 8 = 6", "told 0 = 0",
            "told 4 = 9", "told 6 = NONE", "text h0;", "house = 2", "goBack 0 = NOT", "goBack 1 = NOT");
    }

    // ---- how long

    private static void calls() {
        String sentence = "An object is used for at most 512 calls after it has been made";
        String house = "h0;s9 1;w0 0 0;";
        Script script = Script.in(house, sentence, "keep 1", "400 times wall 0 7", "50 times drift 60",
            "8 times say 0 0", "15 times write 1");
        script.then((509 - script.callsSoFar()) + " times morning 0 0", "wall 0 9 = 7", "told 12 = 20", "undo = 19");
        Due.due(sentence, script.callsSoFar(), 512);
        Script text = Script.run(sentence, "240 times feed 32", "house = 0", "240 times feed 32", "house = 0",
            "text " + house, "house = 2");
        text.then((510 - text.callsSoFar()) + " times births -1 = 3", "morning 0 1 = 1", "told 5 = 1");
        Due.due(sentence, text.callsSoFar(), 512);
    }
}
