/** Promises 9 to 14: mornings, moves, walls, winds, drifts, and all of them undone. */
public final class DoneTest {

    private static final String SMALL = "h3,5;s20 4;s8 2;w0 5 0;w2 10 0;";

    public static void main(String[] args) {
        morning();
        sworn();
        mornings9000();
        move();
        wall();
        wind();
        drift();
        driftWithoutSounds();
        undo();
        undoTwenty();
        undoRestoresAll();
        Due.end("DoneTest");
    }

    // promise 9
    private static void morning() {
        FourWalls x = Due.house(SMALL);
        int[][] heard = {{3, 3, 3}, {1, 0, 0}};
        int[][] tones = {{1, 1, 3}, {0, 0, 0}};
        int count = 0;
        for (int s = 0; s < 2; s++) {
            for (int p = 0; p < 3; p++) {
                String call = "morning(" + s + ", " + p + ")";
                Due.due(call, x.morning(s, p), heard[s][p]);
                count++;
                Due.due(call + " told(5)", x.told(5), count);
                Due.due(call + " told(6)", x.told(6), s);
                Due.due(call + " told(7)", x.told(7), p);
                Due.due(call + " told(8)", x.told(8), heard[s][p]);
                Due.due(call + " told(9)", x.told(9), tones[s][p]);
            }
        }
        Due.due("morning(2, 0)", x.morning(2, 0), Due.UNKNOWN);
        Due.due("morning(-1, 0)", x.morning(-1, 0), Due.UNKNOWN);
        Due.due("morning(0, 3)", x.morning(0, 3), Due.UNKNOWN);
        Due.due("morning(0, -1)", x.morning(0, -1), Due.UNKNOWN);
        Due.due("morning(most, least)", x.morning(Due.MOST, Due.LEAST), Due.UNKNOWN);
        Due.due("told(5) after refusals", x.told(5), 6);
        Due.due("told(12) after refusals", x.told(12), 6);
        Due.due("morning() without witnesses", Due.house("h1;s60 0;").morning(0, 0), 0);
    }

    // promise 9: what is sworn is so as all was then; who is paid hears all the same
    private static void sworn() {
        FourWalls x = Due.house("h3,5;s20 4;s8 2;w0 5 0;w2 10 0;w0 0 1;w0 0 2;w2 30 1;");
        Due.due("morning(1, 0)", x.morning(1, 0), 13);
        Due.due("told(9)", x.told(9), 12);
        int[] want = {1, 0, 6, 0, 6};
        for (int w = 0; w < want.length; w++) {
            Due.due("sworn by " + w, x.witness(w, 3), want[w]);
        }
        x.wind(0);
        x.wall(0, 0);
        x.move(0, 2);
        for (int w = 0; w < want.length; w++) {
            Due.due("still sworn by " + w, x.witness(w, 3), want[w]);
        }
        Due.due("still told(8)", x.told(8), 13);
        Due.due("still told(9)", x.told(9), 12);
    }

    // promises 9 and 13: at 9000 there may be more, above it not
    private static void mornings9000() {
        FourWalls x = Due.house("h1;s30 1;w0 0 0;");
        for (int i = 1; i <= 150; i++) {
            Due.due("drift(60) " + i, x.drift(60), 1);
        }
        Due.due("told(5)", x.told(5), 9000);
        Due.due("morning() at 9000", x.morning(0, 0), 1);
        Due.due("morning() at 9001", x.morning(0, 0), Due.FULL);
        Due.due("morning(1, 0) at 9001", x.morning(1, 0), Due.UNKNOWN);
        Due.due("drift(1) at 9001", x.drift(1), Due.FULL);
        Due.due("drift(0) at 9001", x.drift(0), Due.OUTSIDE);
        Due.due("told(5) at 9001", x.told(5), 9001);
        Due.due("undo()", x.undo(), 19);
        Due.due("drift(60) at 9000", x.drift(60), 1);
        Due.due("told(5) passed", x.told(5), 9060);
        Due.due("move() at 9060", x.move(0, 1), 0);
    }

    // promise 10
    private static void move() {
        FourWalls x = Due.house(SMALL);
        Due.due("move(0, 2)", x.move(0, 2), 0);
        Due.due("move(0, 1)", x.move(0, 1), 2);
        Due.due("move(0, 1) again", x.move(0, 1), 1);
        Due.due("witness(0, 0)", x.witness(0, 0), 1);
        Due.due("witness(1, 0)", x.witness(1, 0), 2);
        Due.due("told(12)", x.told(12), 3);
        Due.due("move(2, 0)", x.move(2, 0), Due.UNKNOWN);
        Due.due("move(-1, 0)", x.move(-1, 0), Due.UNKNOWN);
        Due.due("move(0, 3)", x.move(0, 3), Due.UNKNOWN);
        Due.due("move(0, -1)", x.move(0, -1), Due.UNKNOWN);
        Due.due("witness(0, 0) after refusals", x.witness(0, 0), 1);
        Due.due("told(12) after refusals", x.told(12), 3);
    }

    // promise 11
    private static void wall() {
        FourWalls x = Due.house(SMALL);
        Due.due("wall(0, 0)", x.wall(0, 0), 3);
        Due.due("wall(0, 20)", x.wall(0, 20), 0);
        Due.due("wall(1, 5)", x.wall(1, 5), 5);
        Due.due("thick(0)", x.thick(0), 20);
        Due.due("told(12)", x.told(12), 3);
        Due.due("wall(2, 1)", x.wall(2, 1), Due.UNKNOWN);
        Due.due("wall(-1, 1)", x.wall(-1, 1), Due.UNKNOWN);
        Due.due("wall(2, 21)", x.wall(2, 21), Due.UNKNOWN);
        Due.due("wall(0, 21)", x.wall(0, 21), Due.OUTSIDE);
        Due.due("wall(0, -1)", x.wall(0, -1), Due.OUTSIDE);
        Due.due("thick(0) after refusals", x.thick(0), 20);
        Due.due("told(12) after refusals", x.told(12), 3);
        Due.due("comes(0, 0, 1)", x.comes(0, 0, 1), 999);
    }

    // promise 12
    private static void wind() {
        FourWalls x = Due.house("h3;v12;s20 0;");
        Due.due("wind(0)", x.wind(0), 12);
        Due.due("wind(18)", x.wind(18), 0);
        Due.due("wind(18) again", x.wind(18), 18);
        Due.due("told(4)", x.told(4), 18);
        Due.due("told(12)", x.told(12), 3);
        Due.due("wind(19)", x.wind(19), Due.OUTSIDE);
        Due.due("wind(-1)", x.wind(-1), Due.OUTSIDE);
        Due.due("told(4) after refusals", x.told(4), 18);
        Due.due("told(12) after refusals", x.told(12), 3);
        FourWalls none = new FourWalls();
        Due.due("wind(0) with no house", none.wind(0), Due.NOT);
        Due.due("wind(18) with no house", none.wind(18), Due.NOT);
        Due.due("wind(19) with no house", none.wind(19), Due.OUTSIDE);
        Due.due("told(4) with no house", none.told(4), 9);
    }

    // promise 13: the draws are reckoned here once more, by the document's words
    private static void drift() {
        FourWalls x = Due.house(SMALL);
        FourWalls byHand = Due.house(SMALL);
        Due.due("seed(12345)", x.seed(12345), 0);
        long[] seed = {12345};
        int count = 0;
        for (int n : new int[] {1, 2, 3, 7, 60}) {
            int heard = 0;
            for (int i = 0; i < n; i++) {
                int s = draw(seed, 2);
                int p = draw(seed, 3);
                heard = byHand.morning(s, p);
                byHand.wind(draw(seed, 5) - 2 + 9);
            }
            count += n;
            Due.due("drift(" + n + ")", x.drift(n), heard);
            Due.due("drift(" + n + ") told(5)", x.told(5), count);
            for (int what = 4; what <= 9; what++) {
                Due.due("drift(" + n + ") told(" + what + ")", x.told(what), byHand.told(what));
            }
            Due.due("drift(" + n + ") sworn", x.witness(0, 3), byHand.witness(0, 3));
        }
        Due.due("told(12) of five drifts", x.told(12), 5);
        Due.due("the seed drawn on", x.seed(0), seed[0]);
        Due.due("drift(0)", x.drift(0), Due.OUTSIDE);
        Due.due("drift(61)", x.drift(61), Due.OUTSIDE);
        Due.due("drift(least)", x.drift(Due.LEAST), Due.OUTSIDE);
        Due.due("told(5) after refusals", x.told(5), count);
        Due.due("the seed after refusals", x.seed(0), 0);
        FourWalls none = new FourWalls();
        Due.due("drift(1) with no house", none.drift(1), Due.NOT);
        Due.due("drift(60) with no house", none.drift(60), Due.NOT);
        Due.due("drift(61) with no house", none.drift(61), Due.OUTSIDE);
    }

    private static int draw(long[] seed, int n) {
        seed[0] = (seed[0] * 1103515245L + 12345L) % (1L << 31);
        return (int) (seed[0] / 65536 % n);
    }

    // promise 13: no sounds, no mornings, no draws; but it was not refused
    private static void driftWithoutSounds() {
        FourWalls x = Due.house("h3;v12;w0 0 0;");
        Due.due("seed(5)", x.seed(5), 0);
        Due.due("drift(60)", x.drift(60), 0);
        Due.due("told(5)", x.told(5), 0);
        Due.due("told(4)", x.told(4), 12);
        Due.due("told(6)", x.told(6), Due.NONE);
        Due.due("seed(5) as it was", x.seed(5), 5);
        Due.due("told(12)", x.told(12), 1);
        Due.due("undo()", x.undo(), 0);
    }

    // promise 14
    private static void undo() {
        FourWalls x = Due.house(SMALL);
        Due.due("undo() of nothing", x.undo(), Due.NOT);
        x.morning(0, 1);
        x.move(0, 2);
        x.wall(1, 9);
        x.wind(11);
        x.seed(3);
        x.drift(4);
        int seed = x.seed(9);
        x.say(0, 3);
        x.write(2);
        x.move(9, 9);
        x.wall(9, 9);
        x.wind(99);
        x.drift(99);
        x.morning(9, 9);
        Due.due("told(12)", x.told(12), 5);
        Due.due("undo() of drift", x.undo(), 4);
        Due.due("told(5)", x.told(5), 1);
        Due.due("told(4)", x.told(4), 11);
        Due.due("told(7)", x.told(7), 1);
        Due.due("the seed stays", x.seed(9), 9);
        Due.due("the seed had moved on", seed == 3 ? 1 : 0, 0);
        Due.due("undo() of wind", x.undo(), 3);
        Due.due("told(4) as ahead", x.told(4), 9);
        Due.due("undo() of wall", x.undo(), 2);
        Due.due("thick(1) as ahead", x.thick(1), 5);
        Due.due("undo() of move", x.undo(), 1);
        Due.due("witness(0, 0) as ahead", x.witness(0, 0), 0);
        Due.due("witness(0, 3) is sworn", x.witness(0, 3), 6);
        Due.due("undo() of morning", x.undo(), 0);
        Due.due("told(5) as ahead", x.told(5), 0);
        Due.due("told(6) as ahead", x.told(6), Due.NONE);
        Due.due("told(7) as ahead", x.told(7), Due.NONE);
        Due.due("told(8) as ahead", x.told(8), 0);
        Due.due("told(9) as ahead", x.told(9), 0);
        Due.due("witness(0, 3) as ahead", x.witness(0, 3), Due.NONE);
        Due.due("undo() of no more", x.undo(), Due.NOT);
        Due.due("what is said stays", x.told(10), 1);
        Due.due("the book stays", x.told(11), 1);
        Due.due("undo() with no house", new FourWalls().undo(), Due.NOT);
    }

    // promise 14: 20 at most are kept
    private static void undoTwenty() {
        FourWalls x = Due.house(SMALL);
        for (int i = 0; i < 47; i++) {
            x.wall(0, i % 21);
            Due.due("told(12) after " + (i + 1), x.told(12), Math.min(i + 1, 20));
        }
        for (int i = 46; i > 26; i--) {
            Due.due("thick(0) of change " + i, x.thick(0), i % 21);
            Due.due("undo() of change " + i, x.undo(), i - 27);
        }
        Due.due("thick(0) as far back as it goes", x.thick(0), 26 % 21);
        Due.due("undo() of what is lost", x.undo(), Due.NOT);
        Due.due("wall() after all is undone", x.wall(0, 1), 5);
        Due.due("undo() of that", x.undo(), 0);
        Due.due("thick(0) then", x.thick(0), 5);
    }

    // promise 14: every wall, every witness comes back
    private static void undoRestoresAll() {
        FourWalls x = Due.house("h1,2,3,4,5,6,7,8;s60 1;w0 0 0;w1 0 0;w2 0 0;w3 0 0;w4 0 0;w5 0 0;w6 0 0;");
        x.morning(0, 4);
        x.drift(1);
        for (int k = 0; k < 8; k++) {
            Due.due("wall(" + k + ", 0)", x.wall(k, 0), k + 1);
        }
        for (int w = 0; w < 7; w++) {
            Due.due("move(" + w + ", 8)", x.move(w, 8), w);
        }
        for (int n = 0; n < 16; n++) {
            x.undo();
        }
        for (int k = 0; k < 8; k++) {
            Due.due("thick(" + k + ") as ahead", x.thick(k), k + 1);
        }
        for (int w = 0; w < 7; w++) {
            Due.due("witness(" + w + ", 0) as ahead", x.witness(w, 0), w);
            Due.due("witness(" + w + ", 3) as ahead", x.witness(w, 3), 3);
        }
        Due.due("told(5) as ahead", x.told(5), 1);
        Due.due("told(12)", x.told(12), 1);
    }
}
