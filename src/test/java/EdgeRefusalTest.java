import java.util.ArrayList;
import java.util.List;

/**
 * REFUSALS: every number of every call just within its bounds and just beyond them, refusals of
 * several kinds at once, and that what is refused changes nothing.
 */
public final class EdgeRefusalTest {

    /**
     * The calls that refuse what is UNKNOWN or OUTSIDE. What a number stands for: k a WALL, x a
     * PLACE, s a SOUND, w a WITNESS, X a SET of PLACES, p a pair, i an IMAGE, * any number, ? true
     * or false, else its bounds.
     */
    private static final String[] ASKED = {
        "feed 0..255", "told 0..12", "thick k", "sound s 0..1", "witness w 0..3",
        "morning s x", "move w x", "wall k 0..20", "wind 0..18", "drift 1..60",
        "comes s x x", "says w s x", "listen s x 0..30", "deaf s", "ears s X 0..30", "alike x *",
        "hides k s x", "midwife ? 0..9999 0..9999 0..9999 0..100",
        "bargain 0..9999 0..1000000 0..999 0..1", "found X", "say w 0..11", "births *", "liars p",
        "leastLiars 0..1", "write 0..7", "seed 0..MOST", "keep i", "goBack i"};

    private static final String LEAST = "h0;s60 9;w0 0 0;";
    private static final String SOME = "h3,5;v11;s20 4;s8 2;w0 5 0;w2 10 0;";
    private static final String MOST = "h1,2,3,4,5,6,7,8;v9;" + "s60 9;".repeat(6) + "w8 0 0;".repeat(7);

    public static void main(String[] args) {
        within(LEAST, 1, 1, 1);
        within(SOME, 2, 2, 2);
        within(MOST, 8, 6, 7);
        beyond(LEAST, 1, 1, 1);
        beyond(SOME, 2, 2, 2);
        beyond(MOST, 8, 6, 7);
        nothingThere();
        nothingButPlaces();
        firstInOrder();
        notNow();
        full();
        changesNothing();
        fullChangesNothing();
        notChangesNothing();
        Due.end("EdgeRefusalTest");
    }

    // ---- what a number may be

    /** The least and the most that a number may be. */
    private static String[] right(String kind, int walls, int sounds, int witnesses) {
        switch (kind) {
            case "k": return words(0, walls - 1);
            case "x": return words(0, walls);
            case "s": return words(0, sounds - 1);
            case "w": return words(0, witnesses - 1);
            case "X": return words(0, (1 << walls + 1) - 1);
            case "p": return words(0, (sounds - 1) * 10 + walls, 100);
            case "i": return words(0, 1);
            case "*": return words(Due.LEAST, -2, -1, 0, 1, Due.MOST);
            case "?": return new String[] {"true", "false"};
            default: return kind.split("\\.\\.");
        }
    }

    /** The next below and above, and those far off. */
    private static String[] wrong(String kind, int walls, int sounds, int witnesses) {
        switch (kind) {
            case "p": return words(-1, -10, walls + 1, 9, sounds * 10, (sounds - 1) * 10 + walls + 1,
                99, 101, 110, 1000, Due.LEAST, Due.MOST);
            case "X": return words(-1, 1 << walls + 1, (1 << walls + 1) + 1, 1 << 30, Due.LEAST, Due.MOST);
            case "*": case "?": return new String[0];
            case "0..MOST": return words(-1, -2, Due.LEAST);
            default:
                String[] right = right(kind, walls, sounds, witnesses);
                int least = Script.number(right[0]);
                int most = Script.number(right[1]);
                return words(least - 1, most + 1, Due.LEAST, Due.MOST);
        }
    }

    private static String[] words(int... numbers) {
        String[] words = new String[numbers.length];
        for (int i = 0; i < numbers.length; i++) {
            words[i] = Integer.toString(numbers[i]);
        }
        return words;
    }

    private static int refusal(String kind) {
        return kind.contains("..") ? Due.OUTSIDE : Due.UNKNOWN;
    }

    private static String with(String[] words, int i, String word) {
        String[] all = words.clone();
        all[i] = word;
        return String.join(" ", all);
    }

    /** The call with the least, or the most, of all that it may be asked with. */
    private static String[] rightCall(String asked, boolean most, int walls, int sounds, int witnesses) {
        String[] words = asked.split(" ");
        for (int i = 1; i < words.length; i++) {
            String[] right = right(words[i], walls, sounds, witnesses);
            words[i] = right[most ? 1 : 0];
        }
        return words;
    }

    // ---- each number alone

    /** A number at its bounds is not refused. */
    private static void within(String house, int walls, int sounds, int witnesses) {
        for (String asked : ASKED) {
            String[] kinds = asked.split(" ");
            for (int i = 1; i < kinds.length; i++) {
                for (String word : right(kinds[i], walls, sounds, witnesses)) {
                    for (int most = 0; most < 2; most++) {
                        String call = with(rightCall(asked, most == 1, walls, sounds, witnesses), i, word);
                        Script script = Script.in(house, asked + " within its bounds", "keep 0", "keep 1");
                        int got = script.call(call);
                        Due.due(call + " is not refused: " + got, got > -1000 ? 1 : 0, 1);
                    }
                }
            }
        }
    }

    /** A number beyond its bounds is refused, whatever the others are. */
    private static void beyond(String house, int walls, int sounds, int witnesses) {
        for (String asked : ASKED) {
            String[] kinds = asked.split(" ");
            for (int i = 1; i < kinds.length; i++) {
                for (String word : wrong(kinds[i], walls, sounds, witnesses)) {
                    for (int most = 0; most < 2; most++) {
                        String call = with(rightCall(asked, most == 1, walls, sounds, witnesses), i, word);
                        Script.in(house, asked + " beyond its bounds", call + " = " + refusal(kinds[i]));
                    }
                }
            }
        }
    }

    /** No HOUSE: there is no PLACE, WALL, SOUND or WITNESS, but there are IMAGES. */
    private static void nothingThere() {
        String sentence = "UNKNOWN (a PLACE, WALL, SOUND, WITNESS that there is not): no HOUSE";
        Script.run(sentence, "thick 0 = UNKNOWN", "sound 0 0 = UNKNOWN", "witness 0 0 = UNKNOWN",
            "morning 0 0 = UNKNOWN", "move 0 0 = UNKNOWN", "wall 0 0 = UNKNOWN", "comes 0 0 0 = UNKNOWN",
            "says 0 0 0 = UNKNOWN", "listen 0 0 0 = UNKNOWN", "deaf 0 = UNKNOWN", "ears 0 0 0 = UNKNOWN",
            "alike 0 -1 = UNKNOWN", "hides 0 0 0 = UNKNOWN", "found 1 = UNKNOWN", "found 0 = 0",
            "say 0 0 = UNKNOWN", "liars 0 = UNKNOWN", "keep 0 = 1", "keep 1 = 1", "keep 2 = UNKNOWN");
    }

    /** A HOUSE without SOUNDS and WITNESSES. */
    private static void nothingButPlaces() {
        String sentence = "UNKNOWN (a SOUND, WITNESS that there is not): a HOUSE without";
        Script.in("h0;", sentence, "thick 0 = 0", "sound 0 0 = UNKNOWN", "witness 0 0 = UNKNOWN",
            "morning 0 0 = UNKNOWN", "move 0 0 = UNKNOWN", "comes 0 0 0 = UNKNOWN", "says 0 0 0 = UNKNOWN",
            "listen 0 0 0 = UNKNOWN", "deaf 0 = UNKNOWN", "ears 0 0 0 = UNKNOWN", "alike 0 -1 = 0",
            "alike 1 0 = NONE", "hides 0 0 0 = UNKNOWN", "found 3 = 0", "found 4 = UNKNOWN",
            "say 0 0 = UNKNOWN", "liars 0 = UNKNOWN", "liars 100 = 0");
        Script.in("h0;s1 1;", "a WITNESS that there is not: a SOUND is there", "says 0 0 0 = UNKNOWN",
            "move 0 0 = UNKNOWN", "say 0 0 = UNKNOWN", "deaf 0 = 3", "hides 0 0 0 = 0", "liars 1 = 0");
        Script.in("h0;w0 0 0;", "a SOUND that there is not: a WITNESS is there", "says 0 0 0 = UNKNOWN",
            "morning 0 0 = UNKNOWN", "move 0 1 = 0", "say 0 0 = 1", "liars 0 = UNKNOWN");
    }

    // ---- several at once

    /** REFUSALS, of several the first in this order: UNKNOWN, OUTSIDE, NOT, FULL. */
    private static void firstInOrder() {
        Script.in(SOME, "UNKNOWN ahead of OUTSIDE", "sound 2 2 = UNKNOWN", "sound -1 -1 = UNKNOWN",
            "witness 2 4 = UNKNOWN", "witness -1 -1 = UNKNOWN", "wall 2 21 = UNKNOWN", "wall -1 -1 = UNKNOWN",
            "listen 2 0 31 = UNKNOWN", "listen 0 3 31 = UNKNOWN", "listen 0 -1 -1 = UNKNOWN",
            "ears 2 0 31 = UNKNOWN", "ears 0 8 31 = UNKNOWN", "ears 0 -1 -1 = UNKNOWN",
            "say 2 12 = UNKNOWN", "say -1 -1 = UNKNOWN");
        Script.run("UNKNOWN ahead of NOT", "liars 0 = UNKNOWN", "liars 101 = UNKNOWN", "liars -1 = UNKNOWN",
            "liars 100 = NOT", "goBack 2 = UNKNOWN", "goBack -1 = UNKNOWN", "goBack 1 = NOT");
        Script.in("h1;s30 1;w0 0 0;", "UNKNOWN, OUTSIDE ahead of FULL (MORNINGS)", "150 times drift 60", "morning 0 0",
            "morning 0 0 = FULL", "morning 1 0 = UNKNOWN", "morning 0 2 = UNKNOWN", "morning -1 -1 = UNKNOWN",
            "drift 1 = FULL", "drift 60 = FULL", "drift 0 = OUTSIDE", "drift 61 = OUTSIDE", "drift LEAST = OUTSIDE");
        Script.in(SOME, "UNKNOWN, OUTSIDE ahead of FULL (SAID)", "8 times say 0 0", "say 0 0 = FULL",
            "say 2 0 = UNKNOWN", "say -1 0 = UNKNOWN", "say 2 12 = UNKNOWN", "say 0 12 = OUTSIDE",
            "say 1 -1 = OUTSIDE");
        Script.run("OUTSIDE ahead of NOT", "wind 19 = OUTSIDE", "wind -1 = OUTSIDE", "wind 18 = NOT", "wind 0 = NOT",
            "drift 0 = OUTSIDE", "drift 61 = OUTSIDE", "drift 1 = NOT", "drift 60 = NOT",
            "leastLiars 2 = OUTSIDE", "leastLiars -1 = OUTSIDE", "leastLiars 0 = NOT", "leastLiars 1 = NOT");
        Script.run("OUTSIDE ahead of FULL (THE BOOK)", "15 times write 0", "write 0 = FULL", "write 7 = FULL",
            "write 8 = OUTSIDE", "write -1 = OUTSIDE");
        Script.run("OUTSIDE ahead of FULL (THE TEXT)", "240 times feed 32", "feed 32 = FULL", "feed 0 = FULL",
            "feed 255 = FULL", "feed 256 = OUTSIDE", "feed -1 = OUTSIDE");
        Script.in(SOME, "UNKNOWN for each of several", "comes 2 3 3 = UNKNOWN", "says 2 2 3 = UNKNOWN",
            "hides 2 2 3 = UNKNOWN", "move 2 3 = UNKNOWN", "morning 2 3 = UNKNOWN");
        Script.run("OUTSIDE for each of several", "midwife true -1 10000 -1 101 = OUTSIDE",
            "bargain -1 1000001 -1 2 = OUTSIDE", "bargain 10000 -1 1000 -1 = OUTSIDE");
    }

    // ---- NOT, FULL

    private static void notNow() {
        String[] rows = {"wind 9 = NOT", "drift 1 = NOT", "births -1 = NOT", "births 0 = NOT", "births -2 = NOT",
            "births MOST = NOT", "liars 100 = NOT", "leastLiars 0 = NOT", "leastLiars 1 = NOT", "ask = NOT",
            "undo = NOT"};
        Script.run("NOT: no HOUSE (a new object)", rows).then("goBack 0 = NOT", "goBack 1 = NOT");
        Script.in(SOME, "NOT: no HOUSE (it was taken away)", "house = 0").then(rows);
        Script.run("NOT: no HOUSE (its text had a FAULT)", "text h21;", "house = -12").then(rows);
        Script.in(SOME, "NOT: none (undo)", "undo = NOT", "move 0 1", "undo = 0", "undo = NOT");
        Script.in(SOME, "NOT: it was not kept", "keep 1 = 1", "goBack 0 = NOT", "goBack 1 = 1", "keep 0 = 1",
            "goBack 0 = 1");
    }

    private static void full() {
        Script.run("OUTSIDE, FULL (240)", "239 times feed 32", "feed 32 = 240", "feed 32 = FULL", "told 3 = 240");
        Script.in("h0;s1 1;w0 0 0;", "FULL: MORNINGS are above 9000", "149 times drift 60", "drift 59", "told 5 = 8999",
            "morning 0 0 = 1", "told 5 = 9000", "morning 0 0 = 1", "told 5 = 9001", "morning 0 0 = FULL",
            "told 5 = 9001");
        Script.in(SOME, "FULL (8)", "7 times say 1 11", "say 0 0 = 8", "say 0 0 = FULL", "told 10 = 8");
        Script.run("FULL (15)", "14 times write 7", "write 0 = 15", "write 0 = FULL", "told 11 = 15");
    }

    // ---- what is refused changes nothing

    private static final String[] BUSY = {"seed 77", "move 1 1", "keep 0", "seed 88", "wall 0 9", "keep 1",
        "morning 0 1", "move 0 2", "wall 1 2", "wind 3", "drift 2", "say 0 1", "say 1 1", "write 2", "write 0",
        "text h1;x", "house = -11", "text h1;v3;s9 9;"};

    private static void changesNothing() {
        for (String asked : ASKED) {
            for (String call : refused(asked)) {
                String sentence = "What is refused changes nothing: " + call;
                Script one = Script.in(SOME, sentence).then(BUSY);
                Due.due(call + " is refused", one.call(call) <= Due.UNKNOWN ? 1 : 0, 1);
                Script.alike(one.then("fault = 3"), Script.in(SOME, sentence).then(BUSY).then("fault = 3"));
            }
        }
    }

    private static List<String> refused(String asked) {
        List<String> calls = new ArrayList<>();
        String[] kinds = asked.split(" ");
        for (int i = 1; i < kinds.length; i++) {
            for (String word : wrong(kinds[i], 2, 2, 2)) {
                calls.add(with(rightCall(asked, true, 2, 2, 2), i, word));
            }
        }
        return calls;
    }

    private static void unchanged(String call, int refusal, String house, String... rows) {
        String sentence = "What is refused changes nothing: " + call;
        Script one = Script.in(house, sentence).then(rows).then(call + " = " + refusal);
        Script.alike(one, Script.in(house, sentence).then(rows));
    }

    private static void fullChangesNothing() {
        String[] mornings = {"150 times drift 60", "morning 0 1"};
        unchanged("morning 0 0", Due.FULL, "h3;s20 4;w0 5 0;", mornings);
        unchanged("drift 60", Due.FULL, "h3;s20 4;w0 5 0;", mornings);
        unchanged("say 0 11", Due.FULL, SOME, "8 times say 0 1");
        unchanged("write 7", Due.FULL, SOME, "15 times write 0");
        unchanged("feed 32", Due.FULL, "h3;", "240 times feed 32");
        unchanged("feed 120", Due.FULL, "h3;", "240 times feed 32");
    }

    private static void notChangesNothing() {
        unchanged("undo", Due.NOT, SOME, "morning 0 1", "keep 0", "say 0 1", "write 3", "seed 9");
        unchanged("goBack 0", Due.NOT, SOME, "keep 1", "morning 0 1", "move 0 1", "seed 9");
        unchanged("goBack 1", Due.NOT, SOME, "keep 0", "morning 0 1", "move 0 1", "seed 9");
        String[] bare = {"house = 0", "seed 9", "keep 0", "write 3", "text h1;"};
        for (String call : new String[] {"wind 0", "drift 5", "births -1", "liars 100", "leastLiars 0", "ask", "undo"}) {
            unchanged(call, Due.NOT, SOME, bare);
        }
    }
}
