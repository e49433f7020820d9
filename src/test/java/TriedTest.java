/** Promises 15 to 24: what is tried, and that nothing changes by it. */
public final class TriedTest {

    // made at 0, sound 0 comes to the places as 20, 16, 10; made at 1: 16, 20, 14; made at 2: 10, 14, 20
    // made at 0, sound 1 comes to the places as 8, 4, -2; made at 1: 4, 8, 2; made at 2: -2, 2, 8
    private static final String SMALL = "h3,5;s20 4;s8 2;w0 5 0;w2 10 0;";

    public static void main(String[] args) {
        comes();
        comesByWind();
        says();
        listen();
        deaf();
        ears();
        alike();
        hides();
        midwife();
        bargain();
        found();
        nothingChanges();
        Due.end("TriedTest");
    }

    // promise 15
    private static void comes() {
        FourWalls x = Due.house(SMALL);
        int[][] want = {{20, 16, 10}, {16, 20, 14}, {10, 14, 20}};
        for (int from = 0; from < 3; from++) {
            for (int to = 0; to < 3; to++) {
                Due.due("comes(0, " + from + ", " + to + ")", x.comes(0, from, to), 1000 + want[from][to]);
                Due.due("comes(1, " + from + ", " + to + ")", x.comes(1, from, to), 988 + want[from][to]);
            }
        }
        Due.due("comes(2, 0, 0)", x.comes(2, 0, 0), Due.UNKNOWN);
        Due.due("comes(-1, 0, 0)", x.comes(-1, 0, 0), Due.UNKNOWN);
        Due.due("comes(0, 3, 0)", x.comes(0, 3, 0), Due.UNKNOWN);
        Due.due("comes(0, -1, 0)", x.comes(0, -1, 0), Due.UNKNOWN);
        Due.due("comes(0, 0, 3)", x.comes(0, 0, 3), Due.UNKNOWN);
        Due.due("comes(0, 0, -1)", x.comes(0, 0, -1), Due.UNKNOWN);
        Due.due("comes() with no house", new FourWalls().comes(0, 0, 0), Due.UNKNOWN);
    }

    private static void comesByWind() {
        FourWalls x = Due.house("h3,5;v12;s20 4;");
        Due.due("comes to the right", x.comes(0, 0, 2), 1000 + 20 - 8 - 2 + 6);
        Due.due("comes to the left", x.comes(0, 2, 0), 1000 + 20 - 8 - 2 - 6);
        Due.due("comes where it is made", x.comes(0, 1, 1), 1020);
        x.wind(5);
        Due.due("comes to the right against it", x.comes(0, 0, 1), 1000 + 20 - 3 - 1 - 4);
        Due.due("comes to the left with it", x.comes(0, 1, 0), 1000 + 20 - 3 - 1 + 4);
        x.wall(0, 20);
        Due.due("comes through a built wall", x.comes(0, 1, 0), 1000 + 20 - 20 - 1 + 4);
        x.wall(0, 0);
        Due.due("comes through a broken wall", x.comes(0, 1, 0), 1000 + 20 - 1 + 4);
        FourWalls far = Due.house("h20,20,20,20,20,20,20,20;v0;s0 0;");
        Due.due("comes as low as can be", far.comes(0, 0, 8), 1000 - 160 - 8 - 72);
    }

    // promise 16
    private static void says() {
        FourWalls x = Due.house("h3,5;s20 4;s8 2;w0 5 0;w2 10 0;w2 30 1;w0 0 2;");
        int[][][] want = {
            {{6, 6, 6}, {1, 0, 0}},
            {{1, 1, 6}, {0, 0, 0}},
            {{6, 6, 6}, {6, 6, 6}},
            {{0, 0, 0}, {0, 0, 0}}};
        for (int w = 0; w < 4; w++) {
            for (int s = 0; s < 2; s++) {
                for (int p = 0; p < 3; p++) {
                    Due.due("says(" + w + ", " + s + ", " + p + ")", x.says(w, s, p), want[w][s][p]);
                }
            }
        }
        Due.due("says(4, 0, 0)", x.says(4, 0, 0), Due.UNKNOWN);
        Due.due("says(-1, 0, 0)", x.says(-1, 0, 0), Due.UNKNOWN);
        Due.due("says(0, 2, 0)", x.says(0, 2, 0), Due.UNKNOWN);
        Due.due("says(0, -1, 0)", x.says(0, -1, 0), Due.UNKNOWN);
        Due.due("says(0, 0, 3)", x.says(0, 0, 3), Due.UNKNOWN);
        Due.due("says(0, 0, -1)", x.says(0, 0, -1), Due.UNKNOWN);
        FourWalls edge = Due.house("h0;s9 9;s10 8;s14 7;s15 6;w0 10 0;");
        Due.due("says one lower than E", edge.says(0, 0, 0), 0);
        Due.due("says at E", edge.says(0, 1, 0), 1);
        Due.due("says at E and 4", edge.says(0, 2, 0), 1);
        Due.due("says at E and 5", edge.says(0, 3, 0), 8);
    }

    // promise 17
    private static void listen() {
        FourWalls x = Due.house(SMALL);
        Due.due("listen(0, 0, 10)", x.listen(0, 0, 10), 7);
        Due.due("listen(0, 0, 11)", x.listen(0, 0, 11), 3);
        Due.due("listen(0, 0, 20)", x.listen(0, 0, 20), 1);
        Due.due("listen(0, 0, 21)", x.listen(0, 0, 21), 0);
        Due.due("listen(0, 1, 15)", x.listen(0, 1, 15), 3);
        Due.due("listen(0, 2, 12)", x.listen(0, 2, 12), 6);
        Due.due("listen(1, 0, 0)", x.listen(1, 0, 0), 3);
        Due.due("listen(1, 2, 0)", x.listen(1, 2, 0), 6);
        Due.due("listen(1, 2, 30)", x.listen(1, 2, 30), 0);
        Due.due("listen(2, 0, 0)", x.listen(2, 0, 0), Due.UNKNOWN);
        Due.due("listen(0, 3, 0)", x.listen(0, 3, 0), Due.UNKNOWN);
        Due.due("listen(0, -1, 31)", x.listen(0, -1, 31), Due.UNKNOWN);
        Due.due("listen(0, 0, 31)", x.listen(0, 0, 31), Due.OUTSIDE);
        Due.due("listen(0, 0, -1)", x.listen(0, 0, -1), Due.OUTSIDE);
        x.wind(18);
        // by a wind of 9 it comes as 8, 13, 16
        Due.due("listen(1, 0, 14) by wind", x.listen(1, 0, 14), 4);
        Due.due("listen(1, 0, 13) by wind", x.listen(1, 0, 13), 6);
        Due.due("listen(1, 0, 17) by wind", x.listen(1, 0, 17), 0);
    }

    // promise 18
    private static void deaf() {
        FourWalls x = Due.house(SMALL);
        Due.due("deaf(0)", x.deaf(0), 0);
        Due.due("deaf(1)", x.deaf(1), 6);
        x.move(0, 1);
        Due.due("deaf(1) moved", x.deaf(1), 5);
        x.move(0, 2);
        Due.due("deaf(1) moved to 2", x.deaf(1), 3);
        FourWalls edge = Due.house("h3;s9 0;s10 0;w0 10 0;");
        Due.due("deaf(0) one lower than E", edge.deaf(0), 3);
        Due.due("deaf(1) at E", edge.deaf(1), 2);
        Due.due("deaf(2)", x.deaf(2), Due.UNKNOWN);
        Due.due("deaf(-1)", x.deaf(-1), Due.UNKNOWN);
        Due.due("deaf(0) without witnesses", Due.house("h1,1;s60 0;").deaf(0), 7);
        Due.due("deaf(0) of the paid", Due.house("h20,20;s10 0;w0 5 1;w2 5 2;").deaf(0), 2);
        Due.due("deaf(0) with no house", new FourWalls().deaf(0), Due.UNKNOWN);
    }

    // promise 19
    private static void ears() {
        FourWalls x = Due.house(SMALL);
        Due.due("ears(0, 7, 10)", x.ears(0, 7, 10), 1);
        Due.due("ears(0, 7, 11)", x.ears(0, 7, 11), 2);
        Due.due("ears(0, 7, 15)", x.ears(0, 7, 15), 5);
        Due.due("ears(0, 7, 20)", x.ears(0, 7, 20), 7);
        Due.due("ears(0, 7, 21)", x.ears(0, 7, 21), Due.NONE);
        Due.due("ears(0, 5, 14)", x.ears(0, 5, 14), 2);
        Due.due("ears(0, 4, 14)", x.ears(0, 4, 14), 2);
        Due.due("ears(0, 4, 15)", x.ears(0, 4, 15), 4);
        Due.due("ears(0, 0, 30)", x.ears(0, 0, 30), 0);
        Due.due("ears(1, 7, 2)", x.ears(1, 7, 2), 2);
        Due.due("ears(1, 7, 8)", x.ears(1, 7, 8), 7);
        Due.due("ears(1, 7, 9)", x.ears(1, 7, 9), Due.NONE);
        Due.due("ears(2, 0, 0)", x.ears(2, 0, 0), Due.UNKNOWN);
        Due.due("ears(-1, 0, 0)", x.ears(-1, 0, 0), Due.UNKNOWN);
        Due.due("ears(0, 8, 0)", x.ears(0, 8, 0), Due.UNKNOWN);
        Due.due("ears(0, -1, 0)", x.ears(0, -1, 0), Due.UNKNOWN);
        Due.due("ears(0, 8, 31)", x.ears(0, 8, 31), Due.UNKNOWN);
        Due.due("ears(0, most, 0)", x.ears(0, Due.MOST, 0), Due.UNKNOWN);
        Due.due("ears(0, 7, 31)", x.ears(0, 7, 31), Due.OUTSIDE);
        Due.due("ears(0, 0, -1)", x.ears(0, 0, -1), Due.OUTSIDE);
        // fewer ears go ahead of a set that is less
        FourWalls y = Due.house("h9,0,9;s10 0;");
        Due.due("ears(0, 6, 9)", y.ears(0, 6, 9), 2);
        Due.due("ears(0, 15, 5)", y.ears(0, 15, 5), 11);
        Due.due("ears(0, 15, 0)", y.ears(0, 15, 0), 5);
        // made at 0 it comes as 20, 16, 24, made at 1 as -2, 20, 28: one ear at 2 goes ahead of two at 0 and 1
        FourWalls z = Due.house("h12,0;v18;s20 0;");
        Due.due("ears(0, 3, 18)", z.ears(0, 3, 18), 4);
        Due.due("ears(0, 3, 16)", z.ears(0, 3, 16), 2);
    }

    // promise 20
    private static void alike() {
        FourWalls x = Due.house("h3,5;s20 4;s8 2;s20 4;s9 2;s0 7;s1 8;w0 5 0;w2 10 0;");
        // at 0: sayings (6,1) (1,0) (6,1) (1,0) (0,0) (0,0)
        long[] atNought = {2, 13, 45};
        Due.due("alike(0, -1)", x.alike(0, -1), 3);
        for (int i = 0; i < atNought.length; i++) {
            Due.due("alike(0, " + i + ")", x.alike(0, i), atNought[i]);
        }
        Due.due("alike(0, 3)", x.alike(0, 3), Due.NONE);
        Due.due("alike(0, most)", x.alike(0, Due.MOST), Due.NONE);
        Due.due("alike(0, -2)", x.alike(0, -2), Due.NONE);
        Due.due("alike(0, least)", x.alike(0, Due.LEAST), Due.NONE);
        // at 1: (6,1) (0,0) (6,1) (1,0) (0,0) (0,0)
        Due.due("alike(1, -1)", x.alike(1, -1), 4);
        Due.due("alike(1, 0)", x.alike(1, 0), 2);
        Due.due("alike(1, 1)", x.alike(1, 1), 14);
        Due.due("alike(1, 2)", x.alike(1, 2), 15);
        Due.due("alike(1, 3)", x.alike(1, 3), 45);
        Due.due("alike(3, -1)", x.alike(3, -1), Due.UNKNOWN);
        Due.due("alike(-1, -1)", x.alike(-1, -1), Due.UNKNOWN);
        Due.due("alike(0, -1) with no house", new FourWalls().alike(0, -1), Due.UNKNOWN);
        Due.due("alike of one sound", Due.house("h1;s9 9;").alike(0, -1), 0);
        FourWalls none = Due.house("h1;s1 1;s2 2;s3 3;");
        Due.due("alike without witnesses", none.alike(0, -1), 3);
        Due.due("alike without witnesses, the last", none.alike(1, 2), 12);
        Due.due("alike by the paid", Due.house("h1;s60 1;s0 2;w0 0 1;w0 0 2;").alike(0, -1), 1);
    }

    // promise 21
    private static void hides() {
        FourWalls x = Due.house("h3,5;s20 4;s8 2;w2 10 0;");
        // sound 0 made at 0 comes to 2 as 20 - 2 - both walls: below 10 it is with walls of 9
        Due.due("hides(0, 0, 0)", x.hides(0, 0, 0), 4);
        Due.due("hides(1, 0, 0)", x.hides(1, 0, 0), 6);
        Due.due("hides(1, 0, 1)", x.hides(1, 0, 1), 10);
        Due.due("hides(0, 0, 1)", x.hides(0, 0, 1), Due.NONE);
        Due.due("hides(0, 0, 2)", x.hides(0, 0, 2), Due.NONE);
        Due.due("hides(0, 1, 2)", x.hides(0, 1, 2), 0);
        Due.due("hides(1, 1, 0)", x.hides(1, 1, 0), 0);
        Due.due("hides(2, 0, 0)", x.hides(2, 0, 0), Due.UNKNOWN);
        Due.due("hides(-1, 0, 0)", x.hides(-1, 0, 0), Due.UNKNOWN);
        Due.due("hides(0, 2, 0)", x.hides(0, 2, 0), Due.UNKNOWN);
        Due.due("hides(0, -1, 0)", x.hides(0, -1, 0), Due.UNKNOWN);
        Due.due("hides(0, 0, 3)", x.hides(0, 0, 3), Due.UNKNOWN);
        Due.due("hides(0, 0, -1)", x.hides(0, 0, -1), Due.UNKNOWN);
        FourWalls edge = Due.house("h3,5;s9 0;s10 0;w0 10 0;");
        Due.due("hides(1, 0, 0) one lower than E", edge.hides(1, 0, 0), 0);
        Due.due("hides(1, 1, 0) at E", edge.hides(1, 1, 0), Due.NONE);
        Due.due("hides(0, 1, 0), the wall beside both", edge.hides(0, 1, 0), Due.NONE);
        x.move(0, 0);
        Due.due("hides(1, 0, 2) to the left", x.hides(1, 0, 2), 6);
        Due.due("hides() without witnesses", Due.house("h1;s60 0;").hides(0, 0, 0), 0);
        // of loud 60 and with the wind: 60 - 7 + 63 = 116 comes but for the wall's; E is 18, then 17
        FourWalls most = Due.house("h0,0,0,0,0,0,0;v18;s60 0;w7 18 0;");
        Due.due("hides() by 99", most.hides(3, 0, 0), 99);
        FourWalls more = Due.house("h0,0,0,0,0,0,0;v18;s60 0;w7 17 0;");
        Due.due("hides() not by 99", more.hides(3, 0, 0), Due.NONE);
        Due.due("hides() by 99 of two", Due.house("h0,0,0,0,0,0,0;v18;s60 0;w7 18 2;w7 29 1;").hides(3, 0, 0), 99);
    }

    // promise 22
    private static void midwife() {
        FourWalls x = new FourWalls();
        Due.due("midwife(true, 5, 5, 0, 0)", x.midwife(true, 5, 5, 0, 0), 1);
        Due.due("midwife(false, 5, 5, 0, 0)", x.midwife(false, 5, 5, 0, 0), 0);
        Due.due("midwife(true, 5, 6, 0, 0)", x.midwife(true, 5, 6, 0, 0), 0);
        Due.due("midwife(false, 6, 5, 0, 0)", x.midwife(false, 6, 5, 0, 0), 1);
        Due.due("midwife(true, 10, 60, 100, 50)", x.midwife(true, 10, 60, 100, 50), 1);
        Due.due("midwife(true, 10, 61, 100, 50)", x.midwife(true, 10, 61, 100, 50), 0);
        Due.due("midwife(false, 60, 10, 100, 50)", x.midwife(false, 60, 10, 100, 50), 0);
        Due.due("midwife(false, 61, 10, 100, 50)", x.midwife(false, 61, 10, 100, 50), 1);
        Due.due("midwife(true, 0, 2, 199, 1), cut", x.midwife(true, 0, 2, 199, 1), 0);
        Due.due("midwife(true, 0, 1, 199, 1), cut", x.midwife(true, 0, 1, 199, 1), 1);
        Due.due("midwife(true, 0, 9999, 9999, 100)", x.midwife(true, 0, 9999, 9999, 100), 1);
        Due.due("midwife(true, 0, 9999, 9999, 99)", x.midwife(true, 0, 9999, 9999, 99), 0);
        Due.due("midwife(false, 9999, 0, 9999, 0)", x.midwife(false, 9999, 0, 9999, 0), 1);
        int[][] outside = {{-1, 0, 0, 0}, {10000, 0, 0, 0}, {0, -1, 0, 0}, {0, 10000, 0, 0},
            {0, 0, -1, 0}, {0, 0, 10000, 0}, {0, 0, 0, -1}, {0, 0, 0, 101}, {Due.LEAST, Due.MOST, Due.MOST, Due.LEAST}};
        for (int[] o : outside) {
            Due.due("midwife(true, outside)", x.midwife(true, o[0], o[1], o[2], o[3]), Due.OUTSIDE);
            Due.due("midwife(false, outside)", x.midwife(false, o[0], o[1], o[2], o[3]), Due.OUTSIDE);
        }
    }

    // promise 23
    private static void bargain() {
        FourWalls x = new FourWalls();
        bargain(x, 1000, 500000, 100, 400, 600);
        bargain(x, 1000, 0, 100, 0, 200);
        bargain(x, 1000, 50000, 100, 0, 200);
        bargain(x, 1000, 100000, 100, 0, 200);
        bargain(x, 1000, 101000, 100, 1, 201);
        bargain(x, 1000, 1000000, 100, 900, 1000);
        bargain(x, 1000, 999999, 0, 999, 999);
        bargain(x, 100, 500000, 999, 0, 100);
        bargain(x, 0, 1000000, 999, 0, 0);
        bargain(x, 9999, 1000000, 999, 9000, 9999);
        bargain(x, 9999, 1000000, 0, 9999, 9999);
        bargain(x, 9999, 500000, 0, 4999, 4999);
        bargain(x, 9999, 300000, 999, 2000, 3998);
        int[][] outside = {{-1, 0, 0, 0}, {10000, 0, 0, 0}, {0, -1, 0, 0}, {0, 1000001, 0, 0},
            {0, 0, -1, 0}, {0, 0, 1000, 0}, {0, 0, 0, -1}, {0, 0, 0, 2}};
        for (int[] o : outside) {
            Due.due("bargain(outside)", x.bargain(o[0], o[1], o[2], o[3]), Due.OUTSIDE);
        }
    }

    private static void bargain(FourWalls x, int v, int o, int c, int least, int most) {
        String call = "bargain(" + v + ", " + o + ", " + c;
        Due.due(call + ", 0)", x.bargain(v, o, c, 0), least);
        Due.due(call + ", 1)", x.bargain(v, o, c, 1), most);
    }

    // promise 24
    private static void found() {
        FourWalls x = Due.house(SMALL);
        Due.due("found(7)", x.found(7), 666666);
        Due.due("found(1)", x.found(1), 1000000);
        Due.due("found(2)", x.found(2), 500000);
        Due.due("found(6)", x.found(6), 500000);
        Due.due("found(3)", x.found(3), 750000);
        Due.due("found(0)", x.found(0), 0);
        Due.due("found(8)", x.found(8), Due.UNKNOWN);
        Due.due("found(-1)", x.found(-1), Due.UNKNOWN);
        Due.due("found(least)", x.found(Due.LEAST), Due.UNKNOWN);
        Due.due("found(most)", x.found(Due.MOST), Due.UNKNOWN);
        x.move(0, 2);
        Due.due("found(7) moved", x.found(7), 666666);
        Due.due("found(1) moved", x.found(1), 500000);
        Due.due("found(7) without sounds", Due.house("h1,1;w0 0 0;").found(7), 0);
        Due.due("found(7) without witnesses", Due.house("h1,1;s60 1;").found(7), 0);
        FourWalls one = Due.house("h1;s9 1;w0 9 0;");
        Due.due("found(1) of one pair", one.found(1), 1000000);
        Due.due("found(2) of one pair", one.found(2), 0);
        Due.due("found(0) with no house", new FourWalls().found(0), 0);
        Due.due("found(1) with no house", new FourWalls().found(1), Due.UNKNOWN);
        FourWalls most = Due.house("h0,0,0,0,0,0,0,0;s60 0;s60 0;s60 0;s60 0;s60 0;s60 0;w4 0 0;");
        Due.due("found(511) of all that can be", most.found(511), 1000000);
    }

    private static void nothingChanges() {
        FourWalls x = Due.house(SMALL);
        x.morning(0, 0);
        x.comes(0, 0, 1);
        x.says(0, 1, 1);
        x.listen(0, 0, 0);
        x.deaf(0);
        x.ears(0, 7, 3);
        x.alike(0, -1);
        x.hides(0, 0, 0);
        x.hides(1, 0, 0);
        x.midwife(true, 1, 1, 1, 1);
        x.bargain(1, 1, 1, 1);
        x.found(7);
        long[] want = {3, 2, 2, 0, 9, 1, 0, 0, 3, 1, 0, 0, 1};
        for (int what = 0; what < want.length; what++) {
            Due.due("after trials told(" + what + ")", x.told(what), want[what]);
        }
        Due.due("after trials thick(0)", x.thick(0), 3);
        Due.due("after trials thick(1)", x.thick(1), 5);
        Due.due("after trials witness(0, 0)", x.witness(0, 0), 0);
        Due.due("after trials seed(0)", x.seed(0), 0);
    }
}
