/**
 * A birth that was heard, or not, within four walls: places in a row with walls between them, a
 * wind, sounds, and witnesses who swear to what they hear, or to what they are paid for.
 */
public final class FourWalls {

    public static final int NONE = -1, UNKNOWN = -1000000001, OUTSIDE = -1000000002, NOT = -1000000003, FULL = -1000000004;

    private static final int MILLION = 1000000;
    private static final int MOST_LETTERS = 240;
    private static final int MOST_WALLS = 8;
    private static final int MOST_PLACES = MOST_WALLS + 1;
    private static final int MOST_SOUNDS = 6;
    private static final int MOST_WITNESSES = 7;
    private static final int MOST_BIRTHS = MOST_SOUNDS * MOST_PLACES + 1;
    private static final int MOST_UNDONE = 20;
    private static final int MOST_SAID = 8;
    private static final int MOST_ENTRIES = 15;
    private static final int MOST_MORNINGS = 9000;
    private static final int MOST_DRIFT = 60;
    private static final int IMAGES = 2;

    private static final int THICKEST = 20;
    private static final int THICKEST_TRIED = 99;
    private static final int STRONGEST_WIND = 18;
    private static final int STILL = 9;
    private static final int LOUDEST = 60;
    private static final int HIGHEST_TONE = 9;
    private static final int DULLEST_EAR = 30;
    private static final int TONE_OVER = 5;
    private static final int WIDOWERS = 1;
    private static final int BROTHERS = 2;
    private static final int HIGHEST_SAYING = 11;
    private static final int SILENCE = 100;
    private static final int MOST_PAID = 9999;
    private static final int MOST_COSTS = 999;
    private static final int LETTERS = 256;

    private final Text text = new Text();
    private final Plan plan = new Plan();
    private final Reader reader = new Reader(text);
    private final State state = new State();
    private final Past past = new Past();
    private int theSeed;
    private final Image[] images = new Image[IMAGES];
    private final Hearing hearing = new Hearing(plan, state);
    private final Trial trial = new Trial(plan, state, hearing);
    private final Claims claims = new Claims(plan, hearing);
    private final Book book = new Book();

    public FourWalls() {
        for (int i = 0; i < images.length; i++) {
            images[i] = new Image();
        }
    }

    // ---- the house

    public int feed(int letter) {
        if (isOutside(letter, LETTERS - 1)) {
            return OUTSIDE;
        }
        return text.add(letter) ? text.length : FULL;
    }

    public int house() {
        reader.read();
        text.length = 0;
        if (reader.fault != 0) {
            return -10 - reader.fault;
        }
        plan.take(reader.plan);
        state.begin(plan);
        past.forget();
        forgetImages();
        claims.count = 0;
        book.count = 0;
        return plan.places();
    }

    public int fault() {
        return reader.faultAt;
    }

    public int told(int what) {
        switch (what) {
            case 0: return plan.places();
            case 1: return plan.sounds;
            case 2: return plan.witnesses;
            case 3: return text.length;
            case 4: return state.get(State.WIND) + STILL;
            case 5: return state.get(State.MORNINGS);
            case 6: return state.get(State.SOUND);
            case 7: return state.get(State.PLACE);
            case 8: return state.get(State.HEARD);
            case 9: return state.get(State.TONES);
            case 10: return claims.count;
            case 11: return book.count;
            case 12: return past.count;
            default: return OUTSIDE;
        }
    }

    public int thick(int k) {
        return plan.isWall(k) ? state.get(State.THICK + k) : UNKNOWN;
    }

    public int sound(int s, int what) {
        if (!plan.isSound(s)) {
            return UNKNOWN;
        }
        switch (what) {
            case 0: return Row.get(plan.loud, s);
            case 1: return Row.get(plan.tone, s);
            default: return OUTSIDE;
        }
    }

    public int witness(int w, int what) {
        if (!plan.isWitness(w)) {
            return UNKNOWN;
        }
        switch (what) {
            case 0: return state.get(State.SPOT + w);
            case 1: return Row.get(plan.ear, w);
            case 2: return Row.get(plan.side, w);
            case 3: return state.get(State.SWORN + w);
            default: return OUTSIDE;
        }
    }

    // ---- what is done

    public int morning(int s, int x) {
        if (!plan.isSound(s) || !plan.isPlace(x)) {
            return UNKNOWN;
        }
        if (isFullOfMornings()) {
            return FULL;
        }
        past.push(state);
        swear(s, x);
        return state.get(State.HEARD);
    }

    public int move(int w, int x) {
        if (!plan.isWitness(w) || !plan.isPlace(x)) {
            return UNKNOWN;
        }
        return change(State.SPOT + w, x);
    }

    public int wall(int k, int t) {
        if (!plan.isWall(k)) {
            return UNKNOWN;
        }
        if (isOutside(t, THICKEST)) {
            return OUTSIDE;
        }
        return change(State.THICK + k, t);
    }

    public int wind(int b) {
        if (isOutside(b, STRONGEST_WIND)) {
            return OUTSIDE;
        }
        if (!plan.stands()) {
            return NOT;
        }
        return change(State.WIND, b - STILL) + STILL;
    }

    public int drift(int n) {
        if (n < 1 || n > MOST_DRIFT) {
            return OUTSIDE;
        }
        if (!plan.stands()) {
            return NOT;
        }
        if (isFullOfMornings()) {
            return FULL;
        }
        past.push(state);
        for (int i = 0; i < n && plan.sounds > 0; i++) {
            int s = draw(plan.sounds);
            int x = draw(plan.places());
            swear(s, x);
            state.put(State.WIND, draw(5) - 2);
        }
        return state.get(State.HEARD);
    }

    public int undo() {
        return past.pop(state) ? past.count : NOT;
    }

    // ---- tried

    public int comes(int s, int x, int y) {
        if (!plan.isSound(s) || !plan.isPlace(x) || !plan.isPlace(y)) {
            return UNKNOWN;
        }
        return hearing.loudness(s, x, y) + 1000;
    }

    public int says(int w, int s, int x) {
        if (!plan.isWitness(w) || !plan.isSound(s) || !plan.isPlace(x)) {
            return UNKNOWN;
        }
        return hearing.saying(w, s, x);
    }

    public int listen(int s, int x, int e) {
        if (!plan.isSound(s) || !plan.isPlace(x)) {
            return UNKNOWN;
        }
        return isOutside(e, DULLEST_EAR) ? OUTSIDE : trial.listeners(s, x, e);
    }

    public int deaf(int s) {
        return plan.isSound(s) ? trial.unheard(s) : UNKNOWN;
    }

    public int ears(int s, int places, int e) {
        if (!plan.isSound(s) || !plan.arePlaces(places)) {
            return UNKNOWN;
        }
        return isOutside(e, DULLEST_EAR) ? OUTSIDE : trial.fewestEars(s, places, e);
    }

    public int alike(int x, int i) {
        return plan.isPlace(x) ? trial.alikePair(x, i) : UNKNOWN;
    }

    public int hides(int k, int s, int x) {
        if (!plan.isWall(k) || !plan.isSound(s) || !plan.isPlace(x)) {
            return UNKNOWN;
        }
        return trial.hidingThickness(k, s, x);
    }

    public int midwife(boolean is, int a, int b, int f, int q) {
        if (isOutside(a, MOST_PAID) || isOutside(b, MOST_PAID) || isOutside(f, MOST_PAID) || isOutside(q, 100)) {
            return OUTSIDE;
        }
        int fine = f * q / 100;
        if (is) {
            return b - fine > a ? 0 : 1;
        }
        return a - fine > b ? 1 : 0;
    }

    public int bargain(int v, int o, int c, int what) {
        if (isOutside(v, MOST_PAID) || isOutside(o, MILLION) || isOutside(c, MOST_COSTS) || isOutside(what, 1)) {
            return OUTSIDE;
        }
        long odds = (long) v * o / MILLION;
        int least = Math.max((int) odds - c, 0);
        return what == 0 ? least : Math.min(least + 2 * c, v);
    }

    public int found(int places) {
        return plan.arePlaces(places) ? trial.oddsOfHearing(places) : UNKNOWN;
    }

    // ---- what is said

    public int say(int w, int saying) {
        if (!plan.isWitness(w)) {
            return UNKNOWN;
        }
        if (isOutside(saying, HIGHEST_SAYING)) {
            return OUTSIDE;
        }
        return claims.add(w, saying) ? claims.count : FULL;
    }

    public int births(int i) {
        if (!plan.stands()) {
            return NOT;
        }
        claims.gatherBirths();
        if (i == NONE) {
            return claims.births;
        }
        return claims.birthAt(i);
    }

    public int liars(int pair) {
        if (!plan.isPair(pair)) {
            return UNKNOWN;
        }
        return plan.stands() ? claims.liarsOf(pair) : NOT;
    }

    public int leastLiars(int what) {
        if (isOutside(what, 1)) {
            return OUTSIDE;
        }
        if (!plan.stands()) {
            return NOT;
        }
        int pair = claims.pairOfFewestLiars();
        return what == 0 ? pair : claims.liarsOf(pair);
    }

    public int ask() {
        if (!plan.stands()) {
            return NOT;
        }
        claims.gatherBirths();
        return claims.bestAsked();
    }

    public int write(int heard) {
        if (isOutside(heard, MOST_WITNESSES)) {
            return OUTSIDE;
        }
        return book.add(heard) ? book.count : FULL;
    }

    public int tear() {
        int had = claims.count + book.count;
        claims.count = 0;
        book.count = 0;
        return had;
    }

    public int judge() {
        return book.firstOtherThan(Integer.bitCount(state.get(State.HEARD)));
    }

    // ---- draws, images

    public int seed(int v) {
        if (v < 0) {
            return OUTSIDE;
        }
        int was = theSeed;
        theSeed = v;
        return was;
    }

    public int keep(int i) {
        Image image = imageAt(i);
        if (image == null) {
            return UNKNOWN;
        }
        image.state.take(state);
        image.seed = theSeed;
        image.kept = true;
        past.forget();
        return 1;
    }

    public int goBack(int i) {
        Image image = imageAt(i);
        if (image == null) {
            return UNKNOWN;
        }
        if (!image.kept) {
            return NOT;
        }
        state.take(image.state);
        theSeed = image.seed;
        past.forget();
        return 1;
    }

    private static boolean isOutside(int number, int most) {
        return number < 0 || number > most;
    }

    private boolean isFullOfMornings() {
        return state.get(State.MORNINGS) > MOST_MORNINGS;
    }

    /** Puts one number of the state, so that it can be undone: what it was. */
    private int change(int what, int number) {
        int was = state.get(what);
        past.push(state);
        state.put(what, number);
        return was;
    }

    /** A MORNING: what is heard and sworn stays so, whoever moves later. */
    private void swear(int s, int x) {
        state.put(State.MORNINGS, state.get(State.MORNINGS) + 1);
        state.put(State.SOUND, s);
        state.put(State.PLACE, x);
        state.put(State.HEARD, hearing.hearers(s, x, 0));
        state.put(State.TONES, hearing.hearers(s, x, TONE_OVER));
        for (int w = 0; w < plan.witnesses; w++) {
            state.put(State.SWORN + w, hearing.saying(w, s, x));
        }
    }

    private int draw(int n) {
        if (n <= 0) {
            return 0;
        }
        theSeed = (int) ((theSeed * 1103515245L + 12345L) % 2147483648L);
        return theSeed / 65536 % n;
    }

    private Image imageAt(int i) {
        return i >= 0 && i < images.length ? images[i] : null;
    }

    private void forgetImages() {
        for (int i = 0; i < images.length; i++) {
            Image image = imageAt(i);
            if (image != null) {
                image.kept = false;
            }
        }
    }

    /** Rows of numbers: every index is looked at here, ahead of its use. */
    private static final class Row {

        static int get(int[] row, int i) {
            return i >= 0 && i < row.length ? row[i] : 0;
        }

        static void put(int[] row, int i, int number) {
            if (i >= 0 && i < row.length) {
                row[i] = number;
            }
        }

        static void copy(int[] from, int fromAt, int[] to, int toAt, int count) {
            for (int i = 0; i < count; i++) {
                put(to, toAt + i, get(from, fromAt + i));
            }
        }
    }

    /** THE TEXT, letter by letter. */
    private static final class Text {

        private final int[] letters = new int[MOST_LETTERS];
        int length;

        boolean add(int letter) {
            if (length >= MOST_LETTERS) {
                return false;
            }
            Row.put(letters, length, letter);
            length++;
            return true;
        }

        /** Behind the end stands NONE, which no word, figure or blank is. */
        int letterAt(int i) {
            return i >= 0 && i < length && i < letters.length ? letters[i] : NONE;
        }
    }

    /** THE HOUSE as its text tells it. No HOUSE: no WALLS. */
    private static final class Plan {

        int walls;
        int wind;
        int sounds;
        int witnesses;
        final int[] thickness = new int[MOST_WALLS];
        final int[] loud = new int[MOST_SOUNDS];
        final int[] tone = new int[MOST_SOUNDS];
        final int[] spot = new int[MOST_WITNESSES];
        final int[] ear = new int[MOST_WITNESSES];
        final int[] side = new int[MOST_WITNESSES];

        void clear() {
            walls = 0;
            wind = 0;
            sounds = 0;
            witnesses = 0;
        }

        void take(Plan other) {
            walls = other.walls;
            wind = other.wind;
            sounds = other.sounds;
            witnesses = other.witnesses;
            Row.copy(other.thickness, 0, thickness, 0, MOST_WALLS);
            Row.copy(other.loud, 0, loud, 0, MOST_SOUNDS);
            Row.copy(other.tone, 0, tone, 0, MOST_SOUNDS);
            Row.copy(other.spot, 0, spot, 0, MOST_WITNESSES);
            Row.copy(other.ear, 0, ear, 0, MOST_WITNESSES);
            Row.copy(other.side, 0, side, 0, MOST_WITNESSES);
        }

        void addWall(int t) {
            Row.put(thickness, walls, t);
            walls++;
        }

        void addSound(int l, int n) {
            Row.put(loud, sounds, l);
            Row.put(tone, sounds, n);
            sounds++;
        }

        void addWitness(int p, int e, int b) {
            Row.put(spot, witnesses, p);
            Row.put(ear, witnesses, e);
            Row.put(side, witnesses, b);
            witnesses++;
        }

        boolean stands() {
            return walls > 0;
        }

        int places() {
            return walls > 0 ? walls + 1 : 0;
        }

        boolean isWall(int k) {
            return k >= 0 && k < walls;
        }

        boolean isPlace(int x) {
            return x >= 0 && x < places();
        }

        boolean isSound(int s) {
            return s >= 0 && s < sounds;
        }

        boolean isWitness(int w) {
            return w >= 0 && w < witnesses;
        }

        boolean arePlaces(int set) {
            return set >= 0 && set < 1 << places();
        }

        boolean isPair(int pair) {
            return pair == SILENCE || pair >= 0 && isSound(pair / 10) && isPlace(pair % 10);
        }
    }

    /** Reads THE TEXT into a plan of its own, so that a FAULT leaves THE HOUSE as it was. */
    private static final class Reader {

        private static final int CANNOT_STAND = 1, WRONG_NUMBER = 2, TOO_MANY = 3;

        private final Text text;
        final Plan plan = new Plan();
        int fault;
        int faultAt = NONE;
        private int at;
        private boolean windTold;

        Reader(Text text) {
            this.text = text;
        }

        void read() {
            plan.clear();
            fault = 0;
            faultAt = NONE;
            at = 0;
            windTold = false;
            skipBlanks();
            for (int n = 0; n < MOST_LETTERS && fault == 0 && at < text.length; n++) {
                readClause();
                skipBlanks();
            }
        }

        private void readClause() {
            int wordAt = at;
            int word = text.letterAt(at);
            at++;
            if (!plan.stands() && word != 'h') {
                fail(CANNOT_STAND, wordAt);
                return;
            }
            switch (word) {
                case 'h': readWalls(wordAt); break;
                case 'v': readWind(wordAt); break;
                case 's': readSound(wordAt); break;
                case 'w': readWitness(wordAt); break;
                default: fail(CANNOT_STAND, wordAt);
            }
        }

        private void readWalls(int wordAt) {
            if (plan.stands()) {
                fail(TOO_MANY, wordAt);
                return;
            }
            plan.addWall(readNumber(THICKEST));
            skipBlanks();
            for (int n = 1; n < MOST_WALLS && fault == 0 && text.letterAt(at) == ','; n++) {
                at++;
                plan.addWall(readNumber(THICKEST));
                skipBlanks();
            }
            readEnd();
        }

        private void readWind(int wordAt) {
            if (windTold) {
                fail(TOO_MANY, wordAt);
                return;
            }
            windTold = true;
            plan.wind = readNumber(STRONGEST_WIND) - STILL;
            readEnd();
        }

        private void readSound(int wordAt) {
            if (plan.sounds >= MOST_SOUNDS) {
                fail(TOO_MANY, wordAt);
                return;
            }
            int l = readNumber(LOUDEST);
            int n = readNumber(HIGHEST_TONE);
            plan.addSound(l, n);
            readEnd();
        }

        private void readWitness(int wordAt) {
            if (plan.witnesses >= MOST_WITNESSES) {
                fail(TOO_MANY, wordAt);
                return;
            }
            int p = readNumber(plan.walls);
            int e = readNumber(DULLEST_EAR);
            int b = readNumber(BROTHERS);
            plan.addWitness(p, e, b);
            readEnd();
        }

        /** The NUMBER that comes next, from 0 to the most; with a FAULT it is not used. */
        private int readNumber(int most) {
            skipBlanks();
            int first = at;
            int number = 0;
            for (int n = 0; n < MOST_LETTERS && isFigure(text.letterAt(at)); n++) {
                // what is beyond all bounds already stays so: more figures could wrap it around
                number = Math.min(number * 10 + text.letterAt(at) - '0', 1000);
                at++;
            }
            if (at == first) {
                fail(CANNOT_STAND, first);
            } else if (at - first > 3 || number > most) {
                fail(WRONG_NUMBER, first);
            }
            return number;
        }

        private void readEnd() {
            skipBlanks();
            if (text.letterAt(at) != ';') {
                fail(CANNOT_STAND, at);
            }
            at++;
        }

        private void skipBlanks() {
            for (int n = 0; n < MOST_LETTERS && text.letterAt(at) == ' '; n++) {
                at++;
            }
        }

        private static boolean isFigure(int letter) {
            return letter >= '0' && letter <= '9';
        }

        /** Letters are read in their order: the first FAULT that is found is the first there is. */
        private void fail(int number, int place) {
            if (fault == 0) {
                fault = number;
                faultAt = place;
            }
        }
    }

    /** All that is done, in one row, so that it is kept and brought back whole. */
    private static final class State {

        static final int WIND = 0, MORNINGS = 1, SOUND = 2, PLACE = 3, HEARD = 4, TONES = 5;
        static final int THICK = 6, SPOT = THICK + MOST_WALLS, SWORN = SPOT + MOST_WITNESSES;
        static final int SIZE = SWORN + MOST_WITNESSES;

        final int[] row = new int[SIZE];

        State() {
            forgetMornings();
        }

        int get(int what) {
            return Row.get(row, what);
        }

        void put(int what, int number) {
            Row.put(row, what, number);
        }

        void take(State other) {
            Row.copy(other.row, 0, row, 0, SIZE);
        }

        void begin(Plan plan) {
            forgetMornings();
            put(WIND, plan.wind);
            Row.copy(plan.thickness, 0, row, THICK, MOST_WALLS);
            Row.copy(plan.spot, 0, row, SPOT, MOST_WITNESSES);
        }

        private void forgetMornings() {
            put(MORNINGS, 0);
            put(SOUND, NONE);
            put(PLACE, NONE);
            put(HEARD, 0);
            put(TONES, 0);
            for (int w = 0; w < MOST_WITNESSES; w++) {
                put(SWORN + w, NONE);
            }
        }
    }

    /** The latest states, in a ring of rows that are used again. */
    private static final class Past {

        private final int[] rows = new int[MOST_UNDONE * State.SIZE];
        private int next;
        int count;

        void push(State state) {
            Row.copy(state.row, 0, rows, next * State.SIZE, State.SIZE);
            next = next + 1 < MOST_UNDONE ? next + 1 : 0;
            count = Math.min(count + 1, MOST_UNDONE);
        }

        boolean pop(State state) {
            if (count <= 0) {
                return false;
            }
            next = next > 0 ? next - 1 : MOST_UNDONE - 1;
            count--;
            Row.copy(rows, next * State.SIZE, state.row, 0, State.SIZE);
            return true;
        }

        void forget() {
            count = 0;
        }
    }

    private static final class Image {

        final State state = new State();
        int seed;
        boolean kept;
    }

    /** How a SOUND comes to a PLACE, and what becomes of it in a WITNESS. */
    private static final class Hearing {

        private final Plan plan;
        private final State state;

        Hearing(Plan plan, State state) {
            this.plan = plan;
            this.state = state;
        }

        int loudness(int s, int x, int y) {
            int low = Math.min(x, y);
            int high = Math.max(x, y);
            int loud = Row.get(plan.loud, s) - (high - low) + Row.get(state.row, State.WIND) * (y - x);
            for (int k = low; k < high; k++) {
                loud -= Row.get(state.row, State.THICK + k);
            }
            return loud;
        }

        /** How much louder than he needs it a SOUND comes to a WITNESS: below 0 he does not HEAR it. */
        int margin(int w, int s, int x) {
            return loudness(s, x, Row.get(state.row, State.SPOT + w)) - Row.get(plan.ear, w);
        }

        /** The SET of WITNESSES to whom it comes louder than they need by so much, or more. */
        int hearers(int s, int x, int over) {
            int set = 0;
            for (int w = 0; w < plan.witnesses; w++) {
                if (margin(w, s, x) >= over) {
                    set |= 1 << w;
                }
            }
            return set;
        }

        /** What a WITNESS SAYS; the SOUND NONE is no SOUND at all. */
        int saying(int w, int s, int x) {
            int side = Row.get(plan.side, w);
            if (side == WIDOWERS) {
                return plan.sounds > 0 ? 2 + Row.get(plan.tone, 0) : 0;
            }
            if (side == BROTHERS || s == NONE) {
                return 0;
            }
            int margin = margin(w, s, x);
            if (margin < 0) {
                return 0;
            }
            return margin >= TONE_OVER ? 2 + Row.get(plan.tone, s) : 1;
        }
    }

    /** What is TRIED: nothing changes by it. */
    private static final class Trial {

        private final Plan plan;
        private final State state;
        private final Hearing hearing;
        private final int[] listenersOf = new int[MOST_PLACES];

        Trial(Plan plan, State state, Hearing hearing) {
            this.plan = plan;
            this.state = state;
            this.hearing = hearing;
        }

        int listeners(int s, int x, int e) {
            int set = 0;
            for (int y = 0; y < plan.places(); y++) {
                if (hearing.loudness(s, x, y) >= e) {
                    set |= 1 << y;
                }
            }
            return set;
        }

        int unheard(int s) {
            int set = 0;
            for (int x = 0; x < plan.places(); x++) {
                if (hearing.hearers(s, x, 0) == 0) {
                    set |= 1 << x;
                }
            }
            return set;
        }

        int fewestEars(int s, int places, int e) {
            for (int x = 0; x < plan.places(); x++) {
                Row.put(listenersOf, x, listeners(s, x, e));
            }
            int best = NONE;
            for (int ears = 0; ears < 1 << plan.places(); ears++) {
                boolean fewer = best == NONE || Integer.bitCount(ears) < Integer.bitCount(best);
                if (fewer && coverAll(ears, places)) {
                    best = ears;
                }
            }
            return best;
        }

        private boolean coverAll(int ears, int places) {
            for (int x = 0; x < plan.places(); x++) {
                if ((places >> x & 1) != 0 && (ears & Row.get(listenersOf, x)) == 0) {
                    return false;
                }
            }
            return true;
        }

        /** The i-th pair of SOUNDS that are ALIKE at a PLACE; for NONE how many there are. */
        int alikePair(int x, int i) {
            int count = 0;
            for (int a = 0; a < plan.sounds; a++) {
                for (int b = a + 1; b < plan.sounds; b++) {
                    if (!areAlike(a, b, x)) {
                        continue;
                    }
                    if (count == i) {
                        return 10 * a + b;
                    }
                    count++;
                }
            }
            return i == NONE ? count : NONE;
        }

        private boolean areAlike(int a, int b, int x) {
            for (int w = 0; w < plan.witnesses; w++) {
                if (hearing.saying(w, a, x) != hearing.saying(w, b, x)) {
                    return false;
                }
            }
            return true;
        }

        /** Who stands behind the WALL needs it so thick; who does not is not helped by any. */
        int hidingThickness(int k, int s, int x) {
            int least = 0;
            for (int w = 0; w < plan.witnesses; w++) {
                int margin = hearing.margin(w, s, x);
                int spot = state.get(State.SPOT + w);
                boolean behind = Math.min(x, spot) <= k && k < Math.max(x, spot);
                if (behind) {
                    least = Math.max(least, margin + state.get(State.THICK + k) + 1);
                } else if (margin >= 0) {
                    return NONE;
                }
            }
            return least > THICKEST_TRIED ? NONE : least;
        }

        int oddsOfHearing(int places) {
            int all = plan.sounds * Integer.bitCount(places);
            if (all <= 0) {
                return 0;
            }
            int heard = 0;
            for (int s = 0; s < plan.sounds; s++) {
                heard += Integer.bitCount(places & ~unheard(s));
            }
            return heard * MILLION / all;
        }
    }

    /** What is SAID of one morning, and the pairs that it leaves. */
    private static final class Claims {

        private final Plan plan;
        private final Hearing hearing;
        private final int[] who = new int[MOST_SAID];
        private final int[] what = new int[MOST_SAID];
        int count;
        private final int[] fitting = new int[MOST_BIRTHS];
        int births;
        private final int[] parts = new int[HIGHEST_SAYING + 1];

        Claims(Plan plan, Hearing hearing) {
            this.plan = plan;
            this.hearing = hearing;
        }

        boolean add(int w, int saying) {
            if (count >= MOST_SAID) {
                return false;
            }
            Row.put(who, count, w);
            Row.put(what, count, saying);
            count++;
            return true;
        }

        int liarsOf(int pair) {
            int s = soundOf(pair);
            int liars = 0;
            for (int i = 0; i < count; i++) {
                if (hearing.saying(Row.get(who, i), s, pair % 10) != Row.get(what, i)) {
                    liars++;
                }
            }
            return liars;
        }

        /** BIRTHS are gathered anew when they are asked for: all may stand otherwise by then. */
        void gatherBirths() {
            births = 0;
            for (int n = 0; n < pairs(); n++) {
                int pair = pairAt(n);
                if (liarsOf(pair) == 0) {
                    Row.put(fitting, births, pair);
                    births++;
                }
            }
        }

        int birthAt(int i) {
            return i >= 0 && i < births ? Row.get(fitting, i) : NONE;
        }

        int pairOfFewestLiars() {
            int best = pairAt(0);
            int fewest = liarsOf(best);
            for (int n = 1; n < pairs(); n++) {
                int liars = liarsOf(pairAt(n));
                if (liars < fewest) {
                    best = pairAt(n);
                    fewest = liars;
                }
            }
            return best;
        }

        /** The WITNESS who parts the gathered BIRTHS best. */
        int bestAsked() {
            int best = NONE;
            int least = births;
            for (int w = 0; w < plan.witnesses; w++) {
                int greatest = greatestPart(w);
                if (greatest < least) {
                    best = w;
                    least = greatest;
                }
            }
            return best;
        }

        private int greatestPart(int w) {
            int greatest = 0;
            for (int i = 0; i < parts.length; i++) {
                Row.put(parts, i, 0);
            }
            for (int i = 0; i < births; i++) {
                int pair = Row.get(fitting, i);
                int saying = hearing.saying(w, soundOf(pair), pair % 10);
                int size = Row.get(parts, saying) + 1;
                Row.put(parts, saying, size);
                greatest = Math.max(greatest, size);
            }
            return greatest;
        }

        private int pairs() {
            return plan.sounds * plan.places() + 1;
        }

        /** The n-th of all pairs, rising; the last is no SOUND at all. */
        private int pairAt(int n) {
            int places = plan.places();
            if (places <= 0 || n >= plan.sounds * places) {
                return SILENCE;
            }
            return 10 * (n / places) + n % places;
        }

        private static int soundOf(int pair) {
            return pair == SILENCE ? NONE : pair / 10;
        }
    }

    /** THE BOOK of how many HEARD it. */
    private static final class Book {

        private final int[] entries = new int[MOST_ENTRIES];
        int count;

        boolean add(int heard) {
            if (count >= MOST_ENTRIES) {
                return false;
            }
            Row.put(entries, count, heard);
            count++;
            return true;
        }

        int firstOtherThan(int heard) {
            for (int i = 0; i < count; i++) {
                if (Row.get(entries, i) != heard) {
                    return i;
                }
            }
            return NONE;
        }
    }
}
