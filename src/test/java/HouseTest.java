/** Promises 1 to 8: a new object, the text, the house and what is told of it. */
public final class HouseTest {

    private static final String SMALL = "h3,5;s20 4;s8 2;w0 5 0;w2 10 0;";

    public static void main(String[] args) {
        newObject();
        feed();
        houses();
        houseBeginsAnew();
        faultLeavesAll();
        faultOne();
        faultTwo();
        faultThree();
        told();
        thick();
        sound();
        witness();
        Due.end("HouseTest");
    }

    // promise 1
    private static void newObject() {
        FourWalls x = new FourWalls();
        long[] want = {0, 0, 0, 0, 9, 0, -1, -1, 0, 0, 0, 0, 0};
        for (int what = 0; what < want.length; what++) {
            Due.due("new told(" + what + ")", x.told(what), want[what]);
        }
        Due.due("new fault()", x.fault(), Due.NONE);
        Due.due("new thick(0)", x.thick(0), Due.UNKNOWN);
        Due.due("new sound(0, 0)", x.sound(0, 0), Due.UNKNOWN);
        Due.due("new witness(0, 0)", x.witness(0, 0), Due.UNKNOWN);
        Due.due("new morning(0, 0)", x.morning(0, 0), Due.UNKNOWN);
        Due.due("new undo()", x.undo(), Due.NOT);
        Due.due("new goBack(0)", x.goBack(0), Due.NOT);
        Due.due("new goBack(1)", x.goBack(1), Due.NOT);
        Due.due("new tear()", x.tear(), 0);
        Due.due("new judge()", x.judge(), Due.NONE);
        Due.due("new seed(0)", x.seed(0), 0);
    }

    // promise 2
    private static void feed() {
        FourWalls x = new FourWalls();
        Due.due("feed(-1)", x.feed(-1), Due.OUTSIDE);
        Due.due("feed(256)", x.feed(256), Due.OUTSIDE);
        Due.due("feed(least)", x.feed(Due.LEAST), Due.OUTSIDE);
        Due.due("feed(most)", x.feed(Due.MOST), Due.OUTSIDE);
        Due.due("feed(0)", x.feed(0), 1);
        Due.due("feed(255)", x.feed(255), 2);
        for (int i = 3; i <= 240; i++) {
            Due.due("feed(32) as letter " + i, x.feed(32), i);
        }
        Due.due("feed(32) when full", x.feed(32), Due.FULL);
        Due.due("feed(256) when full", x.feed(256), Due.OUTSIDE);
        Due.due("told(3) when full", x.told(3), 240);
        Due.due("house() of a letter 0", x.house(), -11);
        Due.due("feed(32) after house()", x.feed(32), 1);
        FourWalls y = new FourWalls();
        Due.feed(y, "h1;" + " ".repeat(237));
        Due.due("house() of 240 letters", y.house(), 2);
    }

    // promise 3
    private static void houses() {
        due("", 0, Due.NONE);
        due("   ", 0, Due.NONE);
        due("h0;", 2, Due.NONE);
        due("h20;", 2, Due.NONE);
        due("h1,2,3,4,5,6,7,8;", 9, Due.NONE);
        due("  h 1 , 20 ; v 0 ; s 60   9 ; w 2 30 2 ; ", 3, Due.NONE);
        due("h001,020;", 3, Due.NONE);
        due("h 1 , 2 , 3 ;", 4, Due.NONE);
        due("h1 ,2 ,3 ,4;", 5, Due.NONE);
        due("h1;v18;", 2, Due.NONE);
        due("h1;s0 0;v3;w1 0 0;s1 1;", 2, Due.NONE);
        due("h1;s000 009;", 2, Due.NONE);
        due("h1;" + "s1 1;".repeat(6) + "w0 0 0;".repeat(7), 2, Due.NONE);
        FourWalls x = Due.house(SMALL);
        Due.due("told(3) after house()", x.told(3), 0);
        Due.due("told(4) with no wind told", x.told(4), 9);
        Due.due("told(4) with wind 0", Due.house("h1;v0;").told(4), 0);
        Due.due("told(4) with wind 18", Due.house("h1;v18;").told(4), 18);
        windOfOneHouseOnly();
    }

    private static void windOfOneHouseOnly() {
        FourWalls x = Due.house("h1;v18;");
        Due.feed(x, "h1;v3;");
        Due.due("house() with a wind again", x.house(), 2);
        Due.due("told(4) of the other wind", x.told(4), 3);
        Due.feed(x, "h1;");
        Due.due("house() without", x.house(), 2);
        Due.due("told(4) of no wind", x.told(4), 9);
        Due.feed(x, "h1;v0;x");
        Due.due("house() with a fault behind a wind", x.house(), -11);
        Due.feed(x, "h1;");
        Due.due("house() without, once more", x.house(), 2);
        Due.due("told(4) of no wind, once more", x.told(4), 9);
    }

    private static void due(String text, int want, int fault) {
        FourWalls x = new FourWalls();
        Due.feed(x, text);
        Due.due("house() of \"" + text + "\"", x.house(), want);
        Due.due("fault() of \"" + text + "\"", x.fault(), fault);
        Due.due("told(3) after \"" + text + "\"", x.told(3), 0);
    }

    // promise 3: what is gone with a new house, and what stays
    private static void houseBeginsAnew() {
        String[] texts = {"h7;v2;s9 9;w1 1 1;", " ", ""};
        for (String text : texts) {
            FourWalls x = Due.house(SMALL);
            busy(x);
            Due.feed(x, text);
            boolean none = text.isBlank();
            Due.due("house() anew", x.house(), none ? 0 : 2);
            long[] want = {2, 1, 1, 0, 2, 0, -1, -1, 0, 0, 0, 0, 0};
            long[] gone = {0, 0, 0, 0, 9, 0, -1, -1, 0, 0, 0, 0, 0};
            for (int what = 0; what < want.length; what++) {
                Due.due("anew told(" + what + ")", x.told(what), none ? gone[what] : want[what]);
            }
            Due.due("anew thick(0)", x.thick(0), none ? Due.UNKNOWN : 7);
            Due.due("anew thick(1)", x.thick(1), Due.UNKNOWN);
            Due.due("anew witness(0, 3)", x.witness(0, 3), none ? Due.UNKNOWN : Due.NONE);
            Due.due("anew witness(0, 0)", x.witness(0, 0), none ? Due.UNKNOWN : 1);
            Due.due("anew undo()", x.undo(), Due.NOT);
            Due.due("anew goBack(0)", x.goBack(0), Due.NOT);
            Due.due("anew judge()", x.judge(), Due.NONE);
            Due.due("anew tear()", x.tear(), 0);
            Due.due("anew seed(1)", x.seed(1), 77);
        }
    }

    /** Every part of the state gets something that a new house has to forget. */
    private static void busy(FourWalls x) {
        x.seed(77);
        x.keep(0);
        x.morning(0, 1);
        x.move(0, 1);
        x.wall(0, 9);
        x.wind(1);
        x.say(0, 3);
        x.write(4);
        Due.due("busy told(12)", x.told(12), 4);
    }

    // promise 3: with a fault all else is as it was
    private static void faultLeavesAll() {
        FourWalls x = Due.house(SMALL);
        busy(x);
        long[] before = new long[13];
        for (int what = 0; what < 13; what++) {
            before[what] = x.told(what);
        }
        Due.feed(x, "h1,2,3;v3;s1 1;w0 1 1;x");
        Due.due("house() with a fault", x.house(), -11);
        Due.due("fault()", x.fault(), 22);
        for (int what = 0; what < 13; what++) {
            Due.due("after a fault told(" + what + ")", x.told(what), before[what]);
        }
        Due.due("after a fault thick(0)", x.thick(0), 9);
        Due.due("after a fault thick(1)", x.thick(1), 5);
        Due.due("after a fault sound(0, 0)", x.sound(0, 0), 20);
        Due.due("after a fault witness(0, 0)", x.witness(0, 0), 1);
        Due.due("after a fault judge()", x.judge(), 0);
        Due.due("after a fault undo()", x.undo(), 3);
        Due.due("after a fault goBack(0)", x.goBack(0), 1);
        Due.due("fault() still", x.fault(), 22);
        Due.due("house() of nothing", x.house(), 0);
        Due.due("fault() of nothing", x.fault(), Due.NONE);
    }

    // promises 3 and 4: what cannot stand there
    private static void faultOne() {
        due("x", -11, 0);
        due("v9;", -11, 0);
        due("s1 1;", -11, 0);
        due("w0 0 0;", -11, 0);
        due("  H1;", -11, 2);
        due("5", -11, 0);
        due(";", -11, 0);
        due("h", -11, 1);
        due("h  ", -11, 3);
        due("h;", -11, 1);
        due("h,1;", -11, 1);
        due("h1", -11, 2);
        due("h1,", -11, 3);
        due("h1,;", -11, 3);
        due("h1 2;", -11, 3);
        due("h1 2345;", -11, 3);
        due("h1h", -11, 2);
        due("hh1;", -11, 1);
        due("h1;;", -11, 3);
        due("h1;5", -11, 3);
        due("h1;,", -11, 3);
        due("h1;\t", -11, 3);
        due("h1;\u00e9", -11, 3);
        due("h1,1,1,1,1,1,1,1,1;", -11, 16);
        due("h1,1,1,1,1,1,1,1,99;", -11, 16);
        due("h1,1,1,1,1,1,1,1 , 1;", -11, 17);
        due("h1;v", -11, 4);
        due("h1;v;", -11, 4);
        due("h1;v9", -11, 5);
        due("h1;v9,", -11, 5);
        due("h1;v9 9;", -11, 6);
        due("h1;v-1;", -11, 4);
        due("h1;s1;", -11, 5);
        due("h1;s1,1;", -11, 5);
        due("h1;s11;", -11, 6);
        due("h1;s1 1 1;", -11, 8);
        due("h1;s1 1", -11, 7);
        due("h1;s1 s", -11, 6);
        due("h1;w;", -11, 4);
        due("h1;w1;", -11, 5);
        due("h1;w1 1;", -11, 7);
        due("h1;w1 1 1", -11, 9);
        due("h1;w1 1 1 1;", -11, 10);
        due("h1;w1 1 1 h", -11, 10);
    }

    private static void faultTwo() {
        due("h21;", -12, 1);
        due("h 21", -12, 2);
        due("h1,21;", -12, 3);
        due("h0001;", -12, 1);
        due("h1234", -12, 1);
        due("h999999999999999999999;", -12, 1);
        due("h4294967296;", -12, 1);
        due("h0000000000000000000000;", -12, 1);
        due("h1;v19;", -12, 4);
        due("h1;v999;", -12, 4);
        due("h1;v0009;", -12, 4);
        due("h1;s61 0;", -12, 4);
        due("h1;s60 10;", -12, 7);
        due("h1;s1 0001;", -12, 6);
        due("h1;s111;", -12, 4);
        due("h1;w2 0 0;", -12, 4);
        due("h1;w 999 99 99;", -12, 5);
        due("h1,1;w2 31 0;", -12, 8);
        due("h1,1;w2 30 3;", -12, 11);
        due("h1;w1 1 0001;", -12, 8);
        due("h1,1;w3 1 1;", -12, 6);
        due("h1;w1 0 0;w2 0 0;", -12, 11);
    }

    private static void faultThree() {
        due("h1;h", -13, 3);
        due("h1;h2;", -13, 3);
        due("h1; h", -13, 4);
        due("h1;v9;v", -13, 6);
        due("h1;v9;v9;", -13, 6);
        due("h1;v9;s1 1;v99", -13, 11);
        due("h1;" + "s1 1;".repeat(6) + "s", -13, 33);
        due("h1;" + "s1 1;".repeat(6) + "s99 99;", -13, 33);
        due("h1;" + "w0 0 0;".repeat(7) + "w", -13, 52);
        due("h1;" + "w0 0 0;".repeat(7) + "w9 0 0;", -13, 52);
        due("h1;" + "s1 1;".repeat(6) + "v99;s", -12, 34);
    }

    // promise 5
    private static void told() {
        FourWalls x = Due.house(SMALL);
        Due.due("told(0)", x.told(0), 3);
        Due.due("told(1)", x.told(1), 2);
        Due.due("told(2)", x.told(2), 2);
        Due.due("told(3)", x.told(3), 0);
        Due.feed(x, "h1");
        Due.due("told(3) of two letters", x.told(3), 2);
        Due.due("told(4)", x.told(4), 9);
        x.wind(4);
        Due.due("told(4) turned", x.told(4), 4);
        x.wind(9);
        x.morning(0, 0);
        x.morning(0, 2);
        x.morning(0, 1);
        Due.due("told(5)", x.told(5), 3);
        Due.due("told(6)", x.told(6), 0);
        Due.due("told(7)", x.told(7), 1);
        Due.due("told(8)", x.told(8), 3);
        Due.due("told(9)", x.told(9), 1);
        Due.due("told(12)", x.told(12), 5);
        x.morning(1, 2);
        Due.due("told(6) of sound 1", x.told(6), 1);
        Due.due("told(7) of place 2", x.told(7), 2);
        Due.due("told(8) of none", x.told(8), 0);
        Due.due("told(9) of none", x.told(9), 0);
        x.say(0, 1);
        x.say(1, 1);
        x.write(3);
        Due.due("told(10)", x.told(10), 2);
        Due.due("told(11)", x.told(11), 1);
        Due.due("told(-1)", x.told(-1), Due.OUTSIDE);
        Due.due("told(13)", x.told(13), Due.OUTSIDE);
        Due.due("told(least)", x.told(Due.LEAST), Due.OUTSIDE);
        Due.due("told(most)", x.told(Due.MOST), Due.OUTSIDE);
    }

    // promise 6
    private static void thick() {
        FourWalls x = Due.house("h3,20,0;");
        Due.due("thick(0)", x.thick(0), 3);
        Due.due("thick(1)", x.thick(1), 20);
        Due.due("thick(2)", x.thick(2), 0);
        Due.due("thick(3)", x.thick(3), Due.UNKNOWN);
        Due.due("thick(-1)", x.thick(-1), Due.UNKNOWN);
        Due.due("thick(least)", x.thick(Due.LEAST), Due.UNKNOWN);
        Due.due("thick(most)", x.thick(Due.MOST), Due.UNKNOWN);
        x.wall(1, 7);
        Due.due("thick(1) built", x.thick(1), 7);
        Due.due("thick(7) of 8", Due.house("h1,2,3,4,5,6,7,8;").thick(7), 8);
    }

    // promise 7
    private static void sound() {
        FourWalls x = Due.house("h3;s60 0;s0 9;");
        Due.due("sound(0, 0)", x.sound(0, 0), 60);
        Due.due("sound(0, 1)", x.sound(0, 1), 0);
        Due.due("sound(1, 0)", x.sound(1, 0), 0);
        Due.due("sound(1, 1)", x.sound(1, 1), 9);
        Due.due("sound(2, 0)", x.sound(2, 0), Due.UNKNOWN);
        Due.due("sound(-1, 0)", x.sound(-1, 0), Due.UNKNOWN);
        Due.due("sound(2, 5)", x.sound(2, 5), Due.UNKNOWN);
        Due.due("sound(1, 2)", x.sound(1, 2), Due.OUTSIDE);
        Due.due("sound(1, -1)", x.sound(1, -1), Due.OUTSIDE);
        Due.due("sound(most, most)", x.sound(Due.MOST, Due.MOST), Due.UNKNOWN);
    }

    // promise 8
    private static void witness() {
        FourWalls x = Due.house("h3,5;s20 4;w0 5 0;w2 30 1;w1 0 2;");
        int[][] want = {{0, 5, 0, -1}, {2, 30, 1, -1}, {1, 0, 2, -1}};
        for (int w = 0; w < 3; w++) {
            for (int what = 0; what < 4; what++) {
                Due.due("witness(" + w + ", " + what + ")", x.witness(w, what), want[w][what]);
            }
        }
        x.morning(0, 0);
        Due.due("witness(0, 3) sworn", x.witness(0, 3), 6);
        Due.due("witness(1, 3) sworn", x.witness(1, 3), 6);
        Due.due("witness(2, 3) sworn", x.witness(2, 3), 0);
        x.move(0, 2);
        Due.due("witness(0, 0) moved", x.witness(0, 0), 2);
        Due.due("witness(0, 3) moved, sworn as then", x.witness(0, 3), 6);
        Due.due("witness(3, 0)", x.witness(3, 0), Due.UNKNOWN);
        Due.due("witness(-1, 0)", x.witness(-1, 0), Due.UNKNOWN);
        Due.due("witness(3, 4)", x.witness(3, 4), Due.UNKNOWN);
        Due.due("witness(2, 4)", x.witness(2, 4), Due.OUTSIDE);
        Due.due("witness(2, -1)", x.witness(2, -1), Due.OUTSIDE);
    }
}
