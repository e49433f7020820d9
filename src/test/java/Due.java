/** What every test of the project uses: counts the answers that are not the ones that are due. */
final class Due {

    static final int NONE = -1, UNKNOWN = -1000000001, OUTSIDE = -1000000002, NOT = -1000000003, FULL = -1000000004;
    static final int LEAST = Integer.MIN_VALUE, MOST = Integer.MAX_VALUE;

    /** No test of the project takes nearly so long (in thousandths): a call that never ends fails, too. */
    private static final long LONGEST = 300_000;

    private static int wrong = 0;
    private static int asked = 0;

    static {
        Thread watch = new Thread(Due::endLate);
        watch.setDaemon(true);
        watch.start();
    }

    private Due() {
    }

    private static void endLate() {
        try {
            Thread.sleep(LONGEST);
        } catch (InterruptedException e) {
            return;
        }
        System.out.println("a call does not end");
        Runtime.getRuntime().halt(1);
    }

    static void due(String call, long got, long want) {
        asked++;
        if (got != want) {
            wrong++;
            System.out.println(call + " answered " + got + ", due is " + want);
        }
    }

    /** The text is fed letter by letter, each answer looked at; what stood in it already is told. */
    static void feed(FourWalls x, String text) {
        int had = x.told(3);
        for (int i = 0; i < text.length(); i++) {
            due("feed of letter " + i + " of \"" + text + "\"", x.feed(text.charAt(i)), had + i + 1);
        }
    }

    /** A new object with the house of this text, which has no fault. */
    static FourWalls house(String text) {
        FourWalls x = new FourWalls();
        feed(x, text);
        int got = x.house();
        due("house() of \"" + text + "\" is one", got >= 2 ? 1 : got, 1);
        return x;
    }

    static void end(String name) {
        System.out.println(name + ": " + asked + " answers, " + wrong + " not as due");
        if (wrong != 0) {
            System.exit(1);
        }
    }
}
