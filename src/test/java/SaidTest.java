/** Promises 25 to 32: what is said, the births that it leaves, the liars, the book. */
public final class SaidTest {

    // says of witness 0: sound 0: 6 6 6, sound 1: 1 0 0; of witness 1: sound 0: 1 1 6, sound 1: 0 0 0
    private static final String SMALL = "h3,5;s20 4;s8 2;w0 5 0;w2 10 0;";

    public static void main(String[] args) {
        say();
        births();
        birthsAsAllStands();
        liars();
        leastLiars();
        ask();
        askOfThePaid();
        write();
        tear();
        judge();
        withNoHouse();
        Due.end("SaidTest");
    }

    // promise 25
    private static void say() {
        FourWalls x = Due.house(SMALL);
        Due.due("say(2, 0)", x.say(2, 0), Due.UNKNOWN);
        Due.due("say(-1, 0)", x.say(-1, 0), Due.UNKNOWN);
        Due.due("say(2, 12)", x.say(2, 12), Due.UNKNOWN);
        Due.due("say(0, 12)", x.say(0, 12), Due.OUTSIDE);
        Due.due("say(0, -1)", x.say(0, -1), Due.OUTSIDE);
        Due.due("told(10) after refusals", x.told(10), 0);
        for (int i = 1; i <= 8; i++) {
            Due.due("say " + i, x.say(i % 2, i % 2 == 0 ? 11 : 0), i);
        }
        Due.due("say(0, 0) when full", x.say(0, 0), Due.FULL);
        Due.due("say(0, 12) when full", x.say(0, 12), Due.OUTSIDE);
        Due.due("say(2, 0) when full", x.say(2, 0), Due.UNKNOWN);
        Due.due("told(10) when full", x.told(10), 8);
        Due.due("told(12), nothing to undo", x.told(12), 0);
    }

    // promise 26
    private static void births() {
        FourWalls x = Due.house(SMALL);
        births(x, 0, 1, 2, 10, 11, 12, 100);
        x.say(0, 6);
        births(x, 0, 1, 2);
        x.say(1, 6);
        births(x, 2);
        x.say(0, 6);
        births(x, 2);
        x.say(0, 1);
        births(x);
        x.tear();
        x.say(0, 0);
        births(x, 11, 12, 100);
        x.say(1, 0);
        births(x, 11, 12, 100);
        x.tear();
        x.say(0, 1);
        births(x, 10);
        // no sound at all: the widower's men swear to sound 0 nevertheless
        FourWalls paid = Due.house("h0;s0 9;s60 3;w0 30 1;w0 0 2;w0 30 0;");
        paid.say(0, 11);
        births(paid, 0, 1, 10, 11, 100);
        paid.say(1, 0);
        births(paid, 0, 1, 10, 11, 100);
        paid.say(2, 0);
        births(paid, 0, 1, 100);
        paid.say(0, 0);
        births(paid);
        FourWalls none = Due.house("h0;w0 0 1;w0 0 0;");
        births(none, 100);
        none.say(0, 0);
        none.say(1, 0);
        births(none, 100);
        none.say(0, 2);
        births(none);
        FourWalls most = Due.house("h0,0,0,0,0,0,0,0;" + "s1 1;".repeat(6));
        Due.due("births(-1) of all that can be", most.births(-1), 55);
        Due.due("births(53)", most.births(53), 58);
        Due.due("births(54)", most.births(54), 100);
        Due.due("births(55)", most.births(55), Due.NONE);
    }

    private static void births(FourWalls x, int... want) {
        String left = " of " + want.length + " pairs";
        Due.due("births(-1)" + left, x.births(-1), want.length);
        for (int i = 0; i < want.length; i++) {
            Due.due("births(" + i + ")" + left, x.births(i), want[i]);
        }
        Due.due("births(" + want.length + ")" + left, x.births(want.length), Due.NONE);
        Due.due("births(-2)" + left, x.births(-2), Due.NONE);
        Due.due("births(least)" + left, x.births(Due.LEAST), Due.NONE);
        Due.due("births(most)" + left, x.births(Due.MOST), Due.NONE);
    }

    // promise 26: as all stand when that is asked, whatever stood when it was said
    private static void birthsAsAllStands() {
        FourWalls x = Due.house(SMALL);
        x.say(0, 1);
        births(x, 10);
        x.wall(0, 0);
        // made at 1, sound 1 comes to 0 as 7 now
        births(x, 10, 11);
        x.move(0, 2);
        // at 2, with E 5: sound 1 comes as 1, 2, 8; sound 0 as 13, 14, 20
        births(x, 12);
        x.undo();
        births(x, 10, 11);
        x.undo();
        births(x, 10);
        x.wind(8);
        // to the left 1 more for each place: 5 at 0 of what is made at 1
        births(x, 10, 11);
    }

    // promise 27
    private static void liars() {
        FourWalls x = Due.house(SMALL);
        Due.due("liars(0), nothing said", x.liars(0), 0);
        Due.due("liars(100), nothing said", x.liars(100), 0);
        x.say(0, 6);
        x.say(1, 0);
        x.say(1, 6);
        int[] want = {2, 2, 1};
        for (int p = 0; p < 3; p++) {
            Due.due("liars(" + p + ")", x.liars(p), want[p]);
            Due.due("liars(1" + p + ")", x.liars(10 + p), 2);
        }
        Due.due("liars(100)", x.liars(100), 2);
        int[] unknown = {3, 9, 13, 20, 22, 99, 101, 110, 1000, -1, -10, -100, Due.LEAST, Due.MOST};
        for (int pair : unknown) {
            Due.due("liars(" + pair + ")", x.liars(pair), Due.UNKNOWN);
        }
        FourWalls paid = Due.house("h0;s0 9;w0 30 1;w0 0 2;");
        paid.say(0, 11);
        paid.say(1, 1);
        Due.due("liars(100) of the paid", paid.liars(100), 1);
        Due.due("liars(1) of the paid", paid.liars(1), 1);
    }

    // promise 28
    private static void leastLiars() {
        FourWalls x = Due.house(SMALL);
        least(x, 0, 0);
        x.say(0, 0);
        least(x, 11, 0);
        x.say(1, 6);
        least(x, 2, 1);
        x.say(0, 0);
        least(x, 11, 1);
        x.say(1, 0);
        least(x, 11, 1);
        x.say(0, 6);
        x.say(0, 6);
        least(x, 2, 3);
        Due.due("leastLiars(2)", x.leastLiars(2), Due.OUTSIDE);
        Due.due("leastLiars(-1)", x.leastLiars(-1), Due.OUTSIDE);
        FourWalls second = Due.house("h9,0;s10 3;w1 5 0;");
        second.say(0, 5);
        least(second, 1, 0);
        FourWalls none = Due.house("h0;w0 0 0;");
        none.say(0, 5);
        least(none, 100, 1);
        FourWalls silent = Due.house("h0;s60 1;w0 0 0;w1 0 0;");
        silent.say(0, 0);
        least(silent, 100, 0);
        silent.say(1, 3);
        least(silent, 0, 1);
    }

    private static void least(FourWalls x, int pair, int liars) {
        Due.due("leastLiars(0)", x.leastLiars(0), pair);
        Due.due("leastLiars(1)", x.leastLiars(1), liars);
    }

    // promise 29
    private static void ask() {
        FourWalls x = Due.house(SMALL);
        // of seven births witness 0 has parts 3, 1, 3; witness 1 has 2, 1, 4
        Due.due("ask()", x.ask(), 0);
        x.say(0, 6);
        Due.due("ask() of 0, 1, 2", x.ask(), 1);
        x.say(1, 1);
        Due.due("ask() of 0, 1", x.ask(), Due.NONE);
        x.tear();
        x.say(1, 0);
        Due.due("ask() of 10, 11, 12, 100", x.ask(), 0);
        x.say(0, 0);
        Due.due("ask() of 11, 12, 100", x.ask(), Due.NONE);
        x.say(0, 1);
        Due.due("ask() of none", x.ask(), Due.NONE);
        FourWalls alike = Due.house("h3,5;s20 4;s8 2;w2 10 0;w0 5 0;w0 5 0;");
        Due.due("ask(), of like ones the least", alike.ask(), 1);
        // at E and 5 the tones are heard: sayings 10 and 11, alike but for what is no sound at all
        FourWalls high = Due.house("h0;s20 8;s20 9;w0 19 0;w0 5 0;w0 0 0;");
        Due.due("ask() by high tones", high.ask(), 1);
        // witness 0 says 11 of four births, witness 1 says it of two and 1 of two
        FourWalls great = Due.house("h0;s20 9;s20 9;w0 0 0;w0 15 0;");
        Due.due("ask(), a great part of a high tone", great.ask(), 1);
        Due.due("ask() without witnesses", Due.house("h1;s9 9;").ask(), Due.NONE);
        Due.due("ask() of one birth", Due.house("h1;w0 0 0;").ask(), Due.NONE);
        // both part five births with a greatest part of 2
        FourWalls equal = Due.house("h20;s9 1;s30 2;w0 5 0;w0 0 0;");
        Due.due("births(-1)", equal.births(-1), 5);
        Due.due("ask(), the greatest parts alike", equal.ask(), 0);
    }

    private static void askOfThePaid() {
        FourWalls x = Due.house("h3,5;s20 4;s8 2;w0 0 1;w0 0 2;w2 10 0;");
        Due.due("ask() passes by the paid", x.ask(), 2);
        FourWalls paid = Due.house("h3,5;s20 4;s8 2;w0 0 1;w0 0 2;");
        Due.due("ask() of the paid alone", paid.ask(), Due.NONE);
    }

    // promise 30
    private static void write() {
        FourWalls x = new FourWalls();
        Due.due("write(-1)", x.write(-1), Due.OUTSIDE);
        Due.due("write(8)", x.write(8), Due.OUTSIDE);
        for (int i = 1; i <= 15; i++) {
            Due.due("write " + i, x.write(i % 8), i);
        }
        Due.due("write(0) when full", x.write(0), Due.FULL);
        Due.due("write(8) when full", x.write(8), Due.OUTSIDE);
        Due.due("told(11)", x.told(11), 15);
    }

    // promise 31
    private static void tear() {
        FourWalls x = Due.house(SMALL);
        Due.due("tear() of nothing", x.tear(), 0);
        x.say(0, 1);
        x.say(0, 1);
        x.write(1);
        x.write(2);
        x.write(3);
        Due.due("tear()", x.tear(), 5);
        Due.due("told(10)", x.told(10), 0);
        Due.due("told(11)", x.told(11), 0);
        Due.due("tear() again", x.tear(), 0);
        Due.due("judge() of nothing", x.judge(), Due.NONE);
        births(x, 0, 1, 2, 10, 11, 12, 100);
        Due.due("write(0) anew", x.write(0), 1);
        Due.due("say(0, 0) anew", x.say(0, 0), 1);
    }

    // promise 32
    private static void judge() {
        FourWalls x = Due.house("h3,5;s20 4;s8 2;w0 5 0;w2 10 0;w0 0 2;");
        Due.due("judge() of an empty book", x.judge(), Due.NONE);
        x.write(0);
        Due.due("judge() of 0, none kept", x.judge(), Due.NONE);
        x.write(1);
        Due.due("judge() of 0 1, none kept", x.judge(), 1);
        x.tear();
        x.write(3);
        x.write(3);
        x.write(2);
        Due.due("judge() of 3 3 2, none kept", x.judge(), 0);
        Due.due("morning(0, 0)", x.morning(0, 0), 7);
        Due.due("judge() of 3 3 2, by 3", x.judge(), 2);
        Due.due("morning(1, 0)", x.morning(1, 0), 5);
        Due.due("judge() of 3 3 2, by 2", x.judge(), 0);
        x.undo();
        Due.due("judge() of 3 3 2, by 3 again", x.judge(), 2);
        // who heard it then is what counts, not who would hear it now
        x.move(0, 2);
        x.wall(0, 20);
        x.wind(0);
        Due.due("judge() when all stand otherwise", x.judge(), 2);
    }

    // promises 26 to 29 with no house
    private static void withNoHouse() {
        FourWalls x = new FourWalls();
        Due.due("say(0, 0)", x.say(0, 0), Due.UNKNOWN);
        Due.due("births(-1)", x.births(-1), Due.NOT);
        Due.due("births(0)", x.births(0), Due.NOT);
        Due.due("births(-2)", x.births(-2), Due.NOT);
        Due.due("liars(100)", x.liars(100), Due.NOT);
        Due.due("liars(0)", x.liars(0), Due.UNKNOWN);
        Due.due("leastLiars(0)", x.leastLiars(0), Due.NOT);
        Due.due("leastLiars(1)", x.leastLiars(1), Due.NOT);
        Due.due("leastLiars(2)", x.leastLiars(2), Due.OUTSIDE);
        Due.due("ask()", x.ask(), Due.NOT);
        Due.due("write(0)", x.write(0), 1);
        Due.due("judge()", x.judge(), Due.NONE);
        Due.due("write(1)", x.write(1), 2);
        Due.due("judge() of 0 1", x.judge(), 1);
        Due.due("tear()", x.tear(), 2);
    }
}
