import java.util.Random;

/** Runs of calls by chance (always the same chance), each answer compared with the model's. */
public final class RandomTest {

    private static final int RUNS = 3000;
    /** An object is used for at most so many calls: what comes later is free. */
    private static final int CALLS = 512;
    private static final int[] ODD = {-1, -2, 100, 101, 1000, 9999, 10000, 1000000, 1000001, Integer.MIN_VALUE,
        Integer.MAX_VALUE, -1000000001, 65536, 1 << 30, -100, 255, 256, 240, 60, 61, 512, 511};

    private final Random random;
    private final FourWalls x = new FourWalls();
    private final Model model = new Model();
    private final StringBuilder run = new StringBuilder();
    private int calls;

    private RandomTest(long seed) {
        random = new Random(seed);
    }

    public static void main(String[] args) {
        int runs = args.length > 0 ? Integer.parseInt(args[0]) : RUNS;
        for (int i = 0; i < runs; i++) {
            if (!new RandomTest(i).isAsDue()) {
                Due.due("run " + i, 0, 1);
                break;
            }
            Due.due("run " + i, 1, 1);
        }
        Due.end("RandomTest");
    }

    private boolean isAsDue() {
        boolean wild = random.nextInt(8) == 0;
        while (calls < CALLS) {
            if ((calls == 0 || random.nextInt(90) == 0) && !isAsDueToHouse()) {
                return false;
            }
            for (int i = 0; i < 60 && calls < CALLS; i++) {
                if (!call(wild)) {
                    return false;
                }
            }
        }
        return true;
    }

    private boolean isAsDueToHouse() {
        String text = random.nextInt(6) == 0 ? wrongText() : text();
        for (int i = 0; i < text.length() && calls < CALLS; i++) {
            if (isOther("feed " + (int) text.charAt(i), x.feed(text.charAt(i)), model.feed(text.charAt(i)))) {
                return false;
            }
        }
        return calls + 2 > CALLS
            || !isOther("house", x.house(), model.house()) && !isOther("fault", x.fault(), model.fault());
    }

    /** Each answer that is compared is one call to the object. */
    private boolean isOther(String call, long got, long want) {
        calls++;
        run.append(call).append(" -> ").append(got).append('\n');
        if (got != want) {
            System.out.println(run + "but the model: " + want);
        }
        return got != want;
    }

    private String number(int most) {
        int n = random.nextInt(most + 1);
        String shape = random.nextInt(9) == 0 ? "%03d" : "%d";
        return String.format(shape, n);
    }

    private String gap() {
        return random.nextInt(7) == 0 ? " " : "";
    }

    private String text() {
        StringBuilder text = new StringBuilder(gap() + "h");
        int walls = 1 + random.nextInt(random.nextInt(4) == 0 ? 8 : 4);
        int thickest = random.nextBoolean() ? 20 : 6;
        for (int k = 0; k < walls; k++) {
            text.append(k == 0 ? "" : ",").append(gap()).append(number(thickest)).append(gap());
        }
        text.append(";");
        boolean wind = random.nextBoolean();
        int sounds = random.nextInt(7);
        int witnesses = random.nextInt(8);
        int loudest = random.nextBoolean() ? 60 : 25;
        while (wind || sounds > 0 || witnesses > 0) {
            int which = random.nextInt(3);
            if (which == 0 && wind) {
                text.append("v").append(number(18)).append(gap()).append(";");
                wind = false;
            } else if (which == 1 && sounds > 0) {
                text.append("s").append(number(loudest)).append(" ").append(number(9)).append(";").append(gap());
                sounds--;
            } else if (which == 2 && witnesses > 0) {
                text.append("w").append(gap()).append(number(walls)).append(" ").append(number(30)).append(" ");
                text.append(random.nextInt(3) == 0 ? number(2) : "0").append(gap()).append(";");
                witnesses--;
            }
        }
        return text.toString();
    }

    /** A text that is right but for a few letters; now and then nothing at all. */
    private String wrongText() {
        if (random.nextInt(8) == 0) {
            return " ".repeat(random.nextInt(4));
        }
        StringBuilder text = new StringBuilder(text());
        String letters = "hvsw,; 0123456789999x\u00ff";
        for (int n = 1 + random.nextInt(2); n > 0 && text.length() > 0; n--) {
            int at = random.nextInt(text.length());
            char letter = letters.charAt(random.nextInt(letters.length()));
            switch (random.nextInt(4)) {
                case 0: text.setCharAt(at, letter); break;
                case 1: text.insert(at, letter); break;
                case 2: text.deleteCharAt(at); break;
                default: text.setLength(at);
            }
        }
        return text.toString();
    }

    private int odd() {
        return random.nextInt(4) == 0 ? random.nextInt() : ODD[random.nextInt(ODD.length)];
    }

    /** A number about 0 .. most, seldom one that is far from it. */
    private int about(int most, boolean wild) {
        int chance = random.nextInt(wild ? 3 : 40);
        if (chance == 0) {
            return odd();
        }
        return chance == 1 ? random.nextInt(most + 3) - 1 : random.nextInt(most + 1);
    }

    private boolean call(boolean wild) {
        int which = random.nextInt(44);
        int s = about(Math.max(model.told(1) - 1, 0), wild);
        int p = about(Math.max(model.told(0) - 1, 0), wild);
        int q = about(Math.max(model.told(0) - 1, 0), wild);
        int w = about(Math.max(model.told(2) - 1, 0), wild);
        int k = about(Math.max(model.told(0) - 2, 0), wild);
        int set = about((1 << model.told(0)) - 1, wild);
        int e = about(30, wild);
        int what = about(13, wild);
        int i = random.nextInt(3) == 0 ? -1 : about(9, wild);
        String all = which + " s" + s + " p" + p + " q" + q + " w" + w + " k" + k + " set" + set + " e" + e + " what" + what + " i" + i;
        switch (which) {
            case 0: return !isOther("thick" + all, x.thick(k), model.thick(k));
            case 1: return !isOther("sound" + all, x.sound(s, what - 3), model.sound(s, what - 3));
            case 2: return !isOther("witness" + all, x.witness(w, what - 3), model.witness(w, what - 3));
            case 3: case 4: return !isOther("morning" + all, x.morning(s, p), model.morning(s, p));
            case 5: case 6: return !isOther("move" + all, x.move(w, p), model.move(w, p));
            case 7: case 8: return !isOther("wall" + all, x.wall(k, e - 5), model.wall(k, e - 5));
            case 9: return !isOther("wind" + all, x.wind(e - 5), model.wind(e - 5));
            case 10: return !isOther("drift" + all, x.drift(e * 2 + 1), model.drift(e * 2 + 1));
            case 11: case 12: return !isOther("undo", x.undo(), model.undo());
            case 13: case 14: return !isOther("comes" + all, x.comes(s, p, q), model.comes(s, p, q));
            case 15: return !isOther("says" + all, x.says(w, s, p), model.says(w, s, p));
            case 16: return !isOther("listen" + all, x.listen(s, p, e), model.listen(s, p, e));
            case 17: return !isOther("deaf" + all, x.deaf(s), model.deaf(s));
            case 18: case 19: return !isOther("ears" + all, x.ears(s, set, e), model.ears(s, set, e));
            case 20: case 21: return !isOther("alike" + all, x.alike(p, i), model.alike(p, i));
            case 22: case 23: return !isOther("hides" + all, x.hides(k, s, p), model.hides(k, s, p));
            case 24: return midwife(wild);
            case 25: return bargain(wild);
            case 26: return !isOther("found" + all, x.found(set), model.found(set));
            case 27: case 28: return say(w, wild);
            case 29: case 30: return !isOther("births" + all, x.births(i), model.births(i));
            case 31: case 32: return liars(s, p);
            case 33: return !isOther("leastLiars", x.leastLiars(what / 5), model.leastLiars(what / 5));
            case 34: case 35: return !isOther("ask", x.ask(), model.ask());
            case 36: return !isOther("write" + all, x.write(what - 2), model.write(what - 2));
            case 37: return random.nextInt(3) > 0 || !isOther("tear", x.tear(), model.tear());
            case 38: return !isOther("judge", x.judge(), model.judge());
            case 39: return seed();
            case 40: return random.nextBoolean() || !isOther("keep" + all, x.keep(i + 1), model.keep(i + 1));
            case 41: return !isOther("goBack" + all, x.goBack(i % 3), model.goBack(i % 3));
            case 42: return !isOther("told" + all, x.told(what), model.told(what));
            default: return isAsTold();
        }
    }

    private boolean isAsTold() {
        for (int what = 0; what <= 12 && calls < CALLS; what++) {
            if (isOther("told" + what, x.told(what), model.told(what))) {
                return false;
            }
        }
        for (int w = 0; w < model.told(2) && calls + 2 <= CALLS; w++) {
            if (isOther("sworn" + w, x.witness(w, 3), model.witness(w, 3))
                || isOther("spot" + w, x.witness(w, 0), model.witness(w, 0))) {
                return false;
            }
        }
        return true;
    }

    private boolean midwife(boolean wild) {
        int most = random.nextBoolean() ? 9999 : 12;
        boolean is = random.nextBoolean();
        int a = about(most, wild);
        int b = about(most, wild);
        int f = about(most, wild);
        int q = about(100, wild);
        String call = "midwife " + is + " " + a + " " + b + " " + f + " " + q;
        return !isOther(call, x.midwife(is, a, b, f, q), model.midwife(is, a, b, f, q));
    }

    private boolean bargain(boolean wild) {
        int v = about(9999, wild);
        int o = about(1000000, wild);
        int c = about(999, wild);
        int what = about(1, wild);
        return !isOther("bargain " + v + " " + o + " " + c + " " + what, x.bargain(v, o, c, what), model.bargain(v, o, c, what));
    }

    /** What is said is mostly what somebody might say: else no births are left. */
    private boolean say(int w, boolean wild) {
        int saying = random.nextInt(4) == 0 ? about(11, wild) : model.says(w, 0, random.nextInt(3));
        return !isOther("say " + w + " " + saying, x.say(w, saying), model.say(w, saying));
    }

    private boolean liars(int s, int p) {
        int pair = random.nextInt(4) == 0 ? 100 : s * 10 + p;
        return !isOther("liars " + pair, x.liars(pair), model.liars(pair));
    }

    private boolean seed() {
        int v = random.nextInt(5) == 0 ? odd() : random.nextInt() & Integer.MAX_VALUE;
        return !isOther("seed " + v, x.seed(v), model.seed(v));
    }
}
