/** What is TRIED, promises 15 to 24: each sentence that names a boundary, with its edges. */
public final class EdgeTriedTest {

    // made at 0, sound 0 comes as 20, 18, 14; made at 1: 14, 20, 16; made at 2: 6, 12, 20
    // sound 1 comes as 12 less: 8, 6, 2; 2, 8, 4; -6, 0, 8
    private static final String SMALL = "h3,5;v11;s20 4;s8 2;w0 5 0;w2 10 0;";
    private static final String THICK = "h20,20,20,20,20,20,20,20;s0 0;";
    private static final String OPEN = "h0,0,0,0,0,0,0,0;s60 9;";

    public static void main(String[] args) {
        nothingChanges();
        comes();
        says();
        listen();
        deaf();
        ears();
        earsOfLikeOnes();
        alike();
        alikeAtAPlace();
        hides();
        hidesBounds();
        hidesNone();
        midwifeBounds();
        midwife();
        bargainBounds();
        bargain();
        found();
        foundCut();
        Due.end("EdgeTriedTest");
    }

    private static void nothingChanges() {
        String sentence = "TRIED from now; nothing changes by it";
        String[] busy = {"seed 7", "morning 0 1", "keep 0", "wall 0 9", "move 0 1", "wind 3", "say 0 1", "write 2",
            "text h1;"};
        String[] tried = {"comes 0 0 2", "says 0 1 1", "listen 0 0 0", "deaf 0", "ears 0 7 3", "ears 1 7 30",
            "alike 0 -1", "alike 0 0", "hides 0 0 1", "hides 1 0 2", "midwife true 1 9 9 9", "bargain 9 9 9 1",
            "found 7", "births -1", "births 0", "liars 0", "leastLiars 0", "leastLiars 1", "ask", "judge", "told 5",
            "thick 0", "sound 0 0", "witness 0 3", "fault"};
        for (String call : tried) {
            Script.alike(Script.in(SMALL, sentence + ": " + call).then(busy).then(call), Script.in(SMALL,
                sentence).then(busy));
        }
        Script.alike(Script.in(SMALL, sentence).then(busy).then(tried), Script.in(SMALL, sentence).then(busy));
        Script.in(SMALL, "TRIED from now", "listen 0 0 15 = 3", "wall 0 0", "listen 0 0 15 = 7", "wind 0",
            "listen 0 0 15 = 1", "undo", "undo", "listen 0 0 15 = 3");
    }

    private static void comes() {
        String sentence = "How loud a SOUND made at x COMES to y, and 1000. UNKNOWN (x and y may be alike)";
        Script.in(SMALL, sentence, "comes 0 0 0 = 1020", "comes 0 2 2 = 1020", "comes 1 1 1 = 1008",
            "comes 0 0 2 = 1014", "comes 0 2 0 = 1006", "comes 1 2 0 = 994", "comes 1 2 1 = 1000",
            "comes 0 0 3 = UNKNOWN", "comes 0 3 0 = UNKNOWN", "comes 0 3 3 = UNKNOWN", "comes 2 0 0 = UNKNOWN");
        Script.in(THICK, sentence, "wind 0", "comes 0 0 8 = 760", "comes 0 8 8 = 1000", "wind 18", "comes 0 8 0 = 760",
            "comes 0 0 8 = 904");
        Script.in(OPEN, sentence, "wind 18", "comes 0 0 8 = 1124", "comes 0 8 8 = 1060", "comes 0 8 9 = UNKNOWN");
    }

    private static void says() {
        Script.in(SMALL, "What a WITNESS would SAY of a SOUND made at a PLACE. UNKNOWN", "says 0 0 0 = 6",
            "says 0 0 1 = 6", "says 0 0 2 = 1", "says 0 1 0 = 1", "says 0 1 1 = 0", "says 0 1 2 = 0", "says 1 0 0 = 1",
            "says 1 0 1 = 6", "says 1 0 2 = 6", "says 1 1 0 = 0", "says 1 1 1 = 0", "says 1 1 2 = 0",
            "says 2 0 0 = UNKNOWN", "says 0 2 0 = UNKNOWN", "says 0 0 3 = UNKNOWN", "says -1 0 0 = UNKNOWN",
            "says 0 -1 0 = UNKNOWN", "says 0 0 -1 = UNKNOWN");
    }

    private static void listen() {
        String sentence = "LISTEN: PLACES (a SET) in which one who hears what is e (0 .. 30) or louder HEARS a SOUND made at a PLACE";
        Script.in(SMALL, sentence, "listen 0 0 0 = 7", "listen 0 0 14 = 7", "listen 0 0 15 = 3", "listen 0 0 18 = 3",
            "listen 0 0 19 = 1", "listen 0 0 20 = 1", "listen 0 0 21 = 0", "listen 0 0 30 = 0",
            "listen 0 0 31 = OUTSIDE", "listen 0 0 -1 = OUTSIDE", "listen 0 1 14 = 7", "listen 0 1 15 = 6",
            "listen 0 2 20 = 4", "listen 1 2 0 = 6", "listen 1 2 1 = 4", "listen 0 3 0 = UNKNOWN",
            "listen 2 0 0 = UNKNOWN");
        Script.in("h0;s30 1;s29 1;", sentence + ": 30", "listen 0 0 30 = 1", "listen 0 1 30 = 2", "listen 1 0 30 = 0",
            "listen 0 0 29 = 3");
        Script.in(OPEN, sentence + ": all", "listen 0 4 30 = 511", "listen 0 8 0 = 511");
        Script.in(THICK, sentence + ": one", "listen 0 8 0 = 256", "listen 0 0 0 = 1", "listen 0 0 1 = 0");
    }

    private static void deaf() {
        String sentence = "DEAF: from which PLACES (a SET) a SOUND made there is HEARD by no WITNESS";
        Script.in(SMALL, sentence, "deaf 0 = 0", "deaf 1 = 6", "deaf 2 = UNKNOWN", "deaf -1 = UNKNOWN", "move 1 1",
            "deaf 1 = 6", "move 0 2", "deaf 1 = 3");
        Script.in(OPEN, sentence + ": no WITNESSES", "deaf 0 = 511");
        Script.in(OPEN + "w8 30 0;", sentence + ": none", "deaf 0 = 0");
        Script.in(THICK + "w4 0 2;", sentence + ": all but one", "deaf 0 = 495", "move 0 8", "deaf 0 = 255", "move 0 0",
            "deaf 0 = 510");
        Script.in("h0;s9 0;s10 0;w1 10 1;", sentence + ": at E", "deaf 0 = 3", "deaf 1 = 1");
    }

    private static void ears() {
        String sentence = "EARS: the fewest PLACES with one each who hears what is e or louder, so that a SOUND, made at any PLACE of a SET, is HEARD by one at least; NONE";
        Script.in(SMALL, sentence, "ears 0 7 6 = 1", "ears 0 7 7 = 2", "ears 0 7 12 = 2", "ears 0 7 13 = 4",
            "ears 0 7 15 = 5", "ears 0 7 17 = 6", "ears 0 7 19 = 7", "ears 0 7 20 = 7", "ears 0 7 21 = NONE",
            "ears 0 4 15 = 4", "ears 0 6 15 = 4", "ears 0 8 15 = UNKNOWN", "ears 0 -1 15 = UNKNOWN",
            "ears 0 7 31 = OUTSIDE", "ears 0 7 -1 = OUTSIDE", "ears 1 4 0 = 2", "ears 1 5 0 = 2", "ears 1 7 9 = NONE",
            "ears 1 1 9 = NONE");
        Script.in(SMALL, sentence + ": an empty SET", "ears 0 0 0 = 0", "ears 0 0 30 = 0", "ears 1 0 30 = 0",
            "ears 0 0 31 = OUTSIDE", "ears 2 0 0 = UNKNOWN");
        Script.in("h0;s30 1;", sentence + ": e 30", "ears 0 3 30 = 3", "ears 0 3 29 = 1", "ears 0 2 30 = 2",
            "ears 0 1 30 = 1");
        Script.in(THICK, sentence + ": all nine", "ears 0 511 0 = 511", "ears 0 511 1 = NONE", "ears 0 256 0 = 256",
            "ears 0 512 0 = UNKNOWN", "ears 0 1023 0 = UNKNOWN");
        Script.in(OPEN, sentence + ": one of nine", "ears 0 511 30 = 1", "wind 0", "ears 0 511 30 = 1", "wind 18",
            "ears 0 511 30 = 32");
    }

    private static void earsOfLikeOnes() {
        String sentence = "the fewest PLACES (a SET; of like ones the least)";
        // e 15: made at 0 it is heard at 0 and 1, at 1: 1 and 2, at 2: 2 alone
        Script.in(SMALL, sentence, "ears 0 2 15 = 2", "ears 0 1 15 = 1", "ears 0 5 15 = 5", "ears 0 3 15 = 2",
            "ears 0 2 14 = 1");
        // made at 0 it comes as 20, 16, 24, made at 1 as -2, 20, 28: one at 2 is fewer than two at 0 and 1
        Script.in("h12,0;v18;s20 0;", sentence + ": fewer go ahead of a SET that is less", "ears 0 3 18 = 4",
            "ears 0 3 16 = 2", "ears 0 1 16 = 1");
        // each PLACE and the next hear each other
        Script.in("h0,0,0,0,0,0,0,0;s1 0;", sentence, "ears 0 511 0 = 146", "ears 0 255 0 = 73", "ears 0 257 0 = 129",
            "ears 0 9 0 = 5", "ears 0 511 1 = 511");
    }

    private static void alike() {
        String sentence = "ALIKE at a PLACE: i = NONE how many, else the i-th; NONE (i below NONE, too). UNKNOWN";
        Script.in("h0;" + "s9 9;".repeat(6), sentence, "alike 0 -1 = 15", "alike 0 0 = 1", "alike 0 1 = 2",
            "alike 0 4 = 5", "alike 0 5 = 12", "alike 0 8 = 15", "alike 0 9 = 23", "alike 0 12 = 34", "alike 0 13 = 35",
            "alike 0 14 = 45", "alike 0 15 = NONE", "alike 0 MOST = NONE", "alike 0 -2 = NONE", "alike 0 LEAST = NONE",
            "alike 1 -1 = 15", "alike 2 -1 = UNKNOWN", "alike -1 -1 = UNKNOWN", "alike 2 0 = UNKNOWN");
        Script.in("h0;w0 0 0;", sentence + ": no SOUNDS", "alike 0 -1 = 0", "alike 0 0 = NONE", "alike 0 -2 = NONE");
        Script.in("h0;s9 9;", sentence + ": one SOUND", "alike 0 -1 = 0", "alike 0 0 = NONE");
        Script.in("h0;s9 9;s60 1;", sentence + ": two, no WITNESSES", "alike 0 -1 = 1", "alike 0 0 = 1",
            "alike 0 1 = NONE");
        Script.in("h0;s9 1;s9 2;w0 0 0;", sentence + ": none", "alike 0 -1 = 0", "alike 0 0 = NONE");
    }

    private static void alikeAtAPlace() {
        String sentence = "pairs of SOUNDS that, made at a told PLACE, no WITNESS SAYS otherwise of";
        Script.in("h4;s9 1;s9 2;w0 0 0;", sentence, "alike 0 -1 = 0", "alike 1 -1 = 1", "alike 1 0 = 1");
        Script.in("h0;s5 1;s60 1;s4 1;s0 1;s3 2;w0 0 0;", sentence, "alike 0 -1 = 4", "alike 0 0 = 1", "alike 0 1 = 23",
            "alike 0 2 = 24", "alike 0 3 = 34");
        Script.in("h0;s60 1;s60 2;w0 0 1;w1 0 2;", sentence + ": the paid", "alike 0 -1 = 1", "alike 0 0 = 1");
        Script.in("h0;s60 1;s60 2;w0 0 1;w1 0 2;w1 30 0;", sentence + ": but the last", "alike 0 -1 = 0", "move 2 0",
            "alike 0 -1 = 0");
    }

    private static void hides() {
        String sentence = "HIDES: the least thickness of a WALL, so that a SOUND made at a PLACE is HEARD by no WITNESS";
        Script.in("h3,5;s20 4;s8 2;w2 10 0;", sentence, "hides 0 0 0 = 4", "hides 1 0 0 = 6", "hides 1 0 1 = 10",
            "hides 0 1 0 = 0", "hides 1 1 1 = 0", "wall 0 20", "hides 0 0 0 = 4", "hides 1 0 0 = 0", "wall 0 4",
            "hides 0 0 0 = 4", "deaf 0 = 1", "wall 0 3", "deaf 0 = 0", "move 0 0", "hides 1 0 2 = 6", "hides 0 0 2 = 4",
            "hides 0 0 1 = 10");
        Script.in("h0,0;s30 0;w1 0 0;w2 20 0;", sentence + ": the most that one of several needs", "hides 0 0 0 = 30",
            "move 0 2", "hides 0 0 0 = 29", "hides 1 0 0 = 29", "hides 1 0 1 = 30");
        Script.in("h0;s30 0;w1 29 1;w1 30 2;", sentence + ": who is paid HEARS, too", "hides 0 0 0 = 1");
    }

    private static void hidesBounds() {
        String sentence = "HIDES: the least thickness (0 .. 99) of a WALL; NONE";
        String far = "h0,0,0,0,0,0,0;v18;s60 0;";
        Script.in(far + "w7 18 0;", sentence, "hides 3 0 0 = 99", "hides 0 0 0 = 99", "hides 6 0 0 = 99", "wall 3 20",
            "hides 3 0 0 = 99", "hides 2 0 0 = 79");
        Script.in(far + "w7 17 0;", sentence, "hides 3 0 0 = NONE", "hides 0 0 0 = NONE", "wall 0 1",
            "hides 0 0 0 = NONE", "hides 6 0 0 = 99");
        Script.in("h20;s60 0;w0 0 0;", sentence + ": not behind it", "hides 0 0 0 = NONE", "hides 0 0 1 = 60",
            "move 0 1", "hides 0 0 0 = 60", "hides 0 0 1 = NONE");
        Script.in("h20;s9 0;s10 0;w0 10 0;", sentence + ": 0", "hides 0 0 0 = 0", "hides 0 1 0 = NONE",
            "hides 0 0 1 = 0", "hides 0 1 1 = 0");
        Script.in("h20;s11 0;s12 0;w1 10 0;", sentence + ": 0, 1, 2", "hides 0 0 0 = 1", "hides 0 1 0 = 2", "move 0 0",
            "hides 0 0 1 = 1", "hides 0 1 1 = 2");
    }

    private static void hidesNone() {
        Script.in(OPEN, "HEARD by no WITNESS: there is none", "hides 0 0 0 = 0", "hides 7 0 8 = 0",
            "hides 8 0 0 = UNKNOWN", "hides -1 0 0 = UNKNOWN");
        Script.in("h0,0,0;s20 0;w0 0 0;w3 0 0;", "HIDES; NONE: one on either side", "hides 0 0 1 = NONE",
            "hides 2 0 1 = NONE", "hides 1 0 1 = NONE", "hides 0 0 0 = NONE", "move 1 0", "hides 0 0 1 = 20",
            "hides 1 0 1 = NONE", "hides 1 0 3 = 18");
    }

    // ---- what is paid

    private static void midwifeBounds() {
        String sentence = "MIDWIFE: paid a (0 .. 9999), b (0 .. 9999), fined f (0 .. 9999), found out by q of a hundred (0 .. 100). OUTSIDE";
        Script.run(sentence, "midwife true 0 0 0 0 = 1", "midwife true 9999 9999 9999 100 = 1",
            "midwife false 9999 9999 9999 100 = 0", "midwife true -1 0 0 0 = OUTSIDE",
            "midwife true 10000 0 0 0 = OUTSIDE", "midwife true 0 -1 0 0 = OUTSIDE",
            "midwife true 0 10000 0 0 = OUTSIDE", "midwife true 0 0 -1 0 = OUTSIDE",
            "midwife true 0 0 10000 0 = OUTSIDE", "midwife true 0 0 0 -1 = OUTSIDE", "midwife true 0 0 0 101 = OUTSIDE",
            "midwife false -1 0 0 0 = OUTSIDE", "midwife false 10000 0 0 0 = OUTSIDE",
            "midwife false 0 -1 0 0 = OUTSIDE", "midwife false 0 10000 0 0 = OUTSIDE",
            "midwife false 0 0 -1 0 = OUTSIDE", "midwife false 0 0 10000 0 = OUTSIDE",
            "midwife false 0 0 0 -1 = OUTSIDE", "midwife false 0 0 0 101 = OUTSIDE",
            "midwife true LEAST MOST LEAST MOST = OUTSIDE");
    }

    private static void midwife() {
        Script.run("by which she has more (of like ones what is so)", "midwife true 5 5 0 0 = 1",
            "midwife false 5 5 0 0 = 0", "midwife true 5 6 0 0 = 0", "midwife false 6 5 0 0 = 1",
            "midwife true 6 5 0 0 = 1", "midwife false 5 6 0 0 = 0", "midwife true 10 60 100 50 = 1",
            "midwife true 10 61 100 50 = 0", "midwife false 60 10 100 50 = 0", "midwife false 61 10 100 50 = 1",
            "midwife true 0 0 9999 100 = 1", "midwife false 0 0 9999 100 = 0");
        Script.run("what is paid less f times q / 100 (cut) if it is a lie", "midwife true 0 2 199 1 = 0",
            "midwife true 0 1 199 1 = 1", "midwife true 0 1 1 99 = 0", "midwife true 0 1 1 100 = 1",
            "midwife false 2 0 199 1 = 1", "midwife false 1 0 199 1 = 0", "midwife false 1 0 99 1 = 1",
            "midwife false 1 0 100 1 = 0", "midwife true 0 9999 9999 100 = 1", "midwife true 0 9999 9999 99 = 0",
            "midwife false 9999 0 9999 100 = 0", "midwife false 9999 0 9999 99 = 1", "midwife true 0 9998 9999 100 = 1",
            "midwife true 0 9999 9998 100 = 0");
    }

    private static void bargainBounds() {
        Script.run("BARGAIN: land of v (0 .. 9999), odds o (0 .. a MILLION), c (0 .. 999), what = 0 the least, 1 the most. OUTSIDE",
            "bargain 0 0 0 0 = 0", "bargain 0 0 0 1 = 0", "bargain 9999 1000000 999 0 = 9000",
            "bargain 9999 1000000 999 1 = 9999", "bargain -1 0 0 0 = OUTSIDE", "bargain 10000 0 0 0 = OUTSIDE",
            "bargain 0 -1 0 0 = OUTSIDE", "bargain 0 1000001 0 0 = OUTSIDE", "bargain 0 0 -1 0 = OUTSIDE",
            "bargain 0 0 1000 0 = OUTSIDE", "bargain 0 0 0 -1 = OUTSIDE", "bargain 0 0 0 2 = OUTSIDE",
            "bargain LEAST 0 0 0 = OUTSIDE", "bargain MOST MOST MOST MOST = OUTSIDE");
    }

    private static void bargain() {
        Script.run("the least: v times o / a MILLION (cut) less c, 0 at least", "bargain 9999 1000000 0 0 = 9999",
            "bargain 9999 999999 0 0 = 9998", "bargain 1 999999 0 0 = 0", "bargain 1 1000000 0 0 = 1",
            "bargain 3 333333 0 0 = 0", "bargain 3 333334 0 0 = 1", "bargain 1000 50000 100 0 = 0",
            "bargain 1000 100000 100 0 = 0", "bargain 1000 101000 100 0 = 1", "bargain 1000 100999 100 0 = 0",
            "bargain 9999 1000000 999 0 = 9000", "bargain 9999 500000 0 0 = 4999", "bargain 0 1000000 999 0 = 0");
        Script.run("the most: this least (0, where it was below) and 2 times c, v at most",
            "bargain 1000 500000 100 1 = 600", "bargain 1000 50000 100 1 = 200", "bargain 1000 0 100 1 = 200",
            "bargain 1000 100000 100 1 = 200", "bargain 1000 101000 100 1 = 201", "bargain 1000 900000 100 1 = 1000",
            "bargain 1000 899000 100 1 = 999", "bargain 1000 901000 100 1 = 1000", "bargain 199 0 100 1 = 199",
            "bargain 200 0 100 1 = 200", "bargain 201 0 100 1 = 200", "bargain 0 1000000 999 1 = 0",
            "bargain 9999 1000000 0 1 = 9999", "bargain 9999 0 999 1 = 1998");
    }

    // ---- odds

    private static void found() {
        String sentence = "FOUND: odds (of a MILLION) .. some WITNESS HEARS it; no SOUNDS, an empty SET: 0";
        Script.in("h0,0;w0 0 0;", sentence + ": no SOUNDS", "found 7 = 0", "found 0 = 0", "found 8 = UNKNOWN");
        Script.in(SMALL, sentence + ": an empty SET", "found 0 = 0", "found 8 = UNKNOWN", "found -1 = UNKNOWN",
            "found LEAST = UNKNOWN", "found MOST = UNKNOWN");
        Script.in(OPEN, sentence + ": no WITNESSES", "found 511 = 0", "found 512 = UNKNOWN");
        Script.run(sentence + ": no HOUSE", "found 0 = 0", "found 1 = UNKNOWN");
        Script.in("h1;s9 1;w0 9 0;", sentence + ": one pair", "found 1 = 1000000", "found 2 = 0", "found 3 = 500000");
        Script.in(OPEN + "s60 1;s60 2;s60 3;s60 4;s60 5;w8 30 2;", sentence + ": all", "found 511 = 1000000",
            "found 256 = 1000000");
    }

    private static void foundCut() {
        String sentence = "a MILLION times those / all (cut)";
        // sound 0 is heard from each place, sound 1 from place 0 alone
        Script.in(SMALL, sentence, "found 7 = 666666", "found 1 = 1000000", "found 2 = 500000", "found 3 = 750000",
            "found 6 = 500000");
        Script.in("h20,20,20,20,20,20,20,20;s1 0;s0 0;s0 0;s0 0;s0 0;s0 0;w0 1 1;", sentence + ": 1 of 54",
            "found 511 = 18518", "found 1 = 166666", "found 510 = 0");
        Script.in(OPEN + "s60 1;s60 2;s60 3;s60 4;s7 5;w0 0 0;", sentence + ": 53 of 54", "found 511 = 981481",
            "found 255 = 1000000", "found 256 = 833333");
    }
}
