/** Promises 33 to 35: the seed and the images. */
public final class DrawsTest {

    private static final String SMALL = "h3,5;v11;s20 4;s8 2;w0 5 0;w2 10 0;";

    public static void main(String[] args) {
        seed();
        keep();
        goBack();
        imagesWithNoHouse();
        Due.end("DrawsTest");
    }

    // promise 33
    private static void seed() {
        FourWalls x = Due.house(SMALL);
        Due.due("seed(7)", x.seed(7), 0);
        Due.due("seed(most)", x.seed(Due.MOST), 7);
        Due.due("seed(-1)", x.seed(-1), Due.OUTSIDE);
        Due.due("seed(least)", x.seed(Due.LEAST), Due.OUTSIDE);
        Due.due("seed(most) as it was", x.seed(Due.MOST), Due.MOST);
        x.drift(1);
        long seed = Due.MOST;
        for (int i = 0; i < 3; i++) {
            seed = (seed * 1103515245L + 12345L) % (1L << 31);
        }
        Due.due("seed(0) after three draws", x.seed(0), seed);
        Due.due("told(12), a seed is not undone", x.told(12), 1);
        x.drift(2);
        int after = x.seed(0);
        x.undo();
        x.seed(0);
        x.drift(2);
        Due.due("the same draws from the same seed", x.seed(0), after);
    }

    // promise 34
    private static void keep() {
        FourWalls x = Due.house(SMALL);
        x.move(0, 1);
        Due.due("keep(2)", x.keep(2), Due.UNKNOWN);
        Due.due("keep(-1)", x.keep(-1), Due.UNKNOWN);
        Due.due("keep(most)", x.keep(Due.MOST), Due.UNKNOWN);
        Due.due("told(12) after refusals", x.told(12), 1);
        Due.due("keep(0)", x.keep(0), 1);
        Due.due("told(12)", x.told(12), 0);
        Due.due("undo()", x.undo(), Due.NOT);
        Due.due("witness(0, 0) stays", x.witness(0, 0), 1);
        x.move(0, 2);
        Due.due("keep(0) again", x.keep(0), 1);
        x.move(0, 0);
        Due.due("goBack(0)", x.goBack(0), 1);
        Due.due("witness(0, 0) of the later image", x.witness(0, 0), 2);
        Due.due("goBack(1)", x.goBack(1), Due.NOT);
    }

    // promise 35
    private static void goBack() {
        FourWalls x = Due.house(SMALL);
        Due.due("goBack(0), not kept", x.goBack(0), Due.NOT);
        Due.due("goBack(1), not kept", x.goBack(1), Due.NOT);
        Due.due("goBack(2)", x.goBack(2), Due.UNKNOWN);
        Due.due("goBack(-1)", x.goBack(-1), Due.UNKNOWN);
        x.seed(31);
        x.morning(0, 2);
        x.move(1, 0);
        x.wall(1, 17);
        x.wind(3);
        Due.due("keep(1)", x.keep(1), 1);
        x.say(0, 3);
        x.write(5);
        x.seed(99);
        x.drift(9);
        x.move(0, 2);
        x.move(1, 2);
        x.wall(0, 1);
        x.wall(1, 1);
        Due.due("keep(0)", x.keep(0), 1);
        int seed = x.seed(5);
        x.seed(seed);
        x.wind(0);
        Due.due("told(12) ahead of it", x.told(12), 1);
        Due.due("goBack(1)", x.goBack(1), 1);
        long[] want = {3, 2, 2, 0, 3, 1, 0, 2, x.told(8), x.told(9), 1, 1, 0};
        for (int what = 0; what < want.length; what++) {
            Due.due("back told(" + what + ")", x.told(what), want[what]);
        }
        // made at 2 by a wind of 2: 6 at place 0, 20 at place 2
        Due.due("back told(8)", x.told(8), 3);
        Due.due("back told(9)", x.told(9), 2);
        Due.due("back witness(0, 0)", x.witness(0, 0), 0);
        Due.due("back witness(1, 0)", x.witness(1, 0), 0);
        Due.due("back witness(0, 3)", x.witness(0, 3), 1);
        Due.due("back witness(1, 3)", x.witness(1, 3), 6);
        Due.due("back thick(0)", x.thick(0), 3);
        Due.due("back thick(1)", x.thick(1), 17);
        Due.due("back undo()", x.undo(), Due.NOT);
        Due.due("back seed(8)", x.seed(8), 31);
        Due.due("goBack(0)", x.goBack(0), 1);
        Due.due("back to 0 told(5)", x.told(5), 10);
        Due.due("back to 0 thick(1)", x.thick(1), 1);
        Due.due("back to 0 seed(8)", x.seed(8), seed);
        Due.due("goBack(1) once more", x.goBack(1), 1);
        Due.due("image 1 is as it was", x.thick(1), 17);
        x.wall(1, 2);
        Due.due("goBack(2) refused", x.goBack(2), Due.UNKNOWN);
        Due.due("told(12) after a refusal", x.told(12), 1);
    }

    private static void imagesWithNoHouse() {
        FourWalls x = new FourWalls();
        x.seed(6);
        Due.due("keep(0) with no house", x.keep(0), 1);
        x.seed(7);
        Due.due("goBack(0) with no house", x.goBack(0), 1);
        Due.due("the seed of it", x.seed(6), 6);
        Due.due("told(4) of it", x.told(4), 9);
        Due.due("told(6) of it", x.told(6), Due.NONE);
        Due.feed(x, "h1;");
        Due.due("house()", x.house(), 2);
        Due.due("goBack(0) is gone", x.goBack(0), Due.NOT);
    }
}
