import java.util.ArrayDeque;
import java.util.ArrayList;
import java.util.Deque;
import java.util.HashMap;
import java.util.List;
import java.util.Map;

/** The document once more, in other words: lists, copies and trying out instead of rows and reckoning. */
final class Model {

    static final int NONE = -1, UNKNOWN = -1000000001, OUTSIDE = -1000000002, NOT = -1000000003, FULL = -1000000004;

    /** All of section 2. */
    private static final class Now {
        List<Integer> thick = new ArrayList<>();
        List<Integer> spot = new ArrayList<>();
        int wind;
        int mornings;
        int[] latest;
        List<Integer> heard = List.of();
        List<Integer> tones = List.of();
        List<Integer> sworn = List.of();

        Now copy() {
            Now n = new Now();
            n.thick.addAll(thick);
            n.spot.addAll(spot);
            n.wind = wind;
            n.mornings = mornings;
            n.latest = latest;
            n.heard = heard;
            n.tones = tones;
            n.sworn = sworn;
            return n;
        }
    }

    private final StringBuilder text = new StringBuilder();
    private int fault = NONE;
    private List<int[]> sounds = new ArrayList<>();
    private List<int[]> witnesses = new ArrayList<>();
    private Now now = new Now();
    private final Deque<Now> past = new ArrayDeque<>();
    private final Map<Integer, Now> images = new HashMap<>();
    private final Map<Integer, Long> imageSeeds = new HashMap<>();
    private long seed;
    private final List<int[]> said = new ArrayList<>();
    private final List<Integer> book = new ArrayList<>();

    // ---- the text, by an automaton over its letters

    private static final String WORDS = "hvsw";
    private static final int[][] MOST = {{20}, {18}, {60, 9}, {-1, 30, 2}};
    private static final int[] TIMES = {1, 1, 6, 7};

    int feed(int letter) {
        if (letter < 0 || letter > 255) {
            return OUTSIDE;
        }
        if (text.length() == 240) {
            return FULL;
        }
        text.append((char) letter);
        return text.length();
    }

    int house() {
        String t = text.toString();
        text.setLength(0);
        List<List<int[]>> clauses = new ArrayList<>();
        for (int i = 0; i < 4; i++) {
            clauses.add(new ArrayList<>());
        }
        int[] wrong = parse(t, clauses);
        fault = wrong == null ? NONE : wrong[1];
        if (wrong != null) {
            return -10 - wrong[0];
        }
        now = new Now();
        if (!clauses.get(0).isEmpty()) {
            for (int thick : clauses.get(0).get(0)) {
                now.thick.add(thick);
            }
        }
        now.wind = clauses.get(1).isEmpty() ? 0 : clauses.get(1).get(0)[0] - 9;
        sounds = clauses.get(2);
        witnesses = clauses.get(3);
        for (int[] w : witnesses) {
            now.spot.add(w[0]);
        }
        past.clear();
        images.clear();
        said.clear();
        book.clear();
        return places();
    }

    /** Null, or the number of the first fault and its place. */
    private static int[] parse(String t, List<List<int[]>> clauses) {
        int word = -1;
        List<Integer> numbers = new ArrayList<>();
        boolean wantNumber = false;
        int i = 0;
        while (i <= t.length()) {
            char c = i < t.length() ? t.charAt(i) : 0;
            boolean end = i == t.length();
            if (!end && c == ' ') {
                i++;
                continue;
            }
            if (word < 0) {
                if (end) {
                    return null;
                }
                word = WORDS.indexOf(c);
                if (word < 0 || word > 0 && clauses.get(0).isEmpty()) {
                    return new int[] {1, i};
                }
                if (clauses.get(word).size() == TIMES[word]) {
                    return new int[] {3, i};
                }
                wantNumber = true;
                i++;
                continue;
            }
            if (wantNumber) {
                int j = i;
                while (j < t.length() && "0123456789".indexOf(t.charAt(j)) >= 0) {
                    j++;
                }
                if (j == i) {
                    return new int[] {1, i};
                }
                int most = MOST[word][word == 0 ? 0 : numbers.size()];
                if (most < 0) {
                    most = clauses.get(0).get(0).length;
                }
                if (j - i > 3 || Integer.parseInt(t.substring(i, j)) > most) {
                    return new int[] {2, i};
                }
                numbers.add(Integer.parseInt(t.substring(i, j)));
                wantNumber = word > 0 && numbers.size() < MOST[word].length;
                i = j;
                continue;
            }
            if (!end && c == ',' && word == 0 && numbers.size() < 8) {
                wantNumber = true;
                i++;
                continue;
            }
            if (end || c != ';') {
                return new int[] {1, i};
            }
            clauses.get(word).add(numbers.stream().mapToInt(n -> n).toArray());
            numbers.clear();
            word = -1;
            i++;
        }
        return null;
    }

    int fault() {
        return fault;
    }

    private int places() {
        return now.thick.isEmpty() ? 0 : now.thick.size() + 1;
    }

    private boolean noHouse() {
        return now.thick.isEmpty();
    }

    private boolean noSound(int s) {
        return s < 0 || s >= sounds.size();
    }

    private boolean noPlace(int x) {
        return x < 0 || x >= places();
    }

    private boolean noWitness(int w) {
        return w < 0 || w >= witnesses.size();
    }

    private boolean noWall(int k) {
        return k < 0 || k >= now.thick.size();
    }

    private static boolean out(int n, int least, int most) {
        return n < least || n > most;
    }

    private static int set(List<Integer> of) {
        int set = 0;
        for (int k : of) {
            set += 1 << k;
        }
        return set;
    }

    int told(int what) {
        int[] latest = now.latest == null ? new int[] {NONE, NONE} : now.latest;
        int[] all = {places(), sounds.size(), witnesses.size(), text.length(), now.wind + 9, now.mornings,
            latest[0], latest[1], set(now.heard), set(now.tones), said.size(), book.size(), past.size()};
        return out(what, 0, all.length - 1) ? OUTSIDE : all[what];
    }

    int thick(int k) {
        return noWall(k) ? UNKNOWN : now.thick.get(k);
    }

    int sound(int s, int what) {
        return noSound(s) ? UNKNOWN : out(what, 0, 1) ? OUTSIDE : sounds.get(s)[what];
    }

    int witness(int w, int what) {
        if (noWitness(w)) {
            return UNKNOWN;
        }
        if (out(what, 0, 3)) {
            return OUTSIDE;
        }
        if (what == 3) {
            return now.latest == null ? NONE : now.sworn.get(w);
        }
        return what == 0 ? now.spot.get(w) : witnesses.get(w)[what];
    }

    // ---- what is done

    private void keepPast() {
        past.addLast(now.copy());
        if (past.size() > 20) {
            past.removeFirst();
        }
    }

    private void swear(int s, int x) {
        now.mornings++;
        now.latest = new int[] {s, x};
        now.heard = new ArrayList<>();
        now.tones = new ArrayList<>();
        now.sworn = new ArrayList<>();
        for (int w = 0; w < witnesses.size(); w++) {
            int loud = loud(now, s, x, now.spot.get(w));
            int e = witnesses.get(w)[1];
            if (loud >= e) {
                now.heard.add(w);
            }
            if (loud >= e + 5) {
                now.tones.add(w);
            }
            now.sworn.add(saying(w, 10 * s + x));
        }
    }

    int morning(int s, int x) {
        if (noSound(s) || noPlace(x)) {
            return UNKNOWN;
        }
        if (now.mornings > 9000) {
            return FULL;
        }
        keepPast();
        swear(s, x);
        return set(now.heard);
    }

    int move(int w, int x) {
        if (noWitness(w) || noPlace(x)) {
            return UNKNOWN;
        }
        keepPast();
        return now.spot.set(w, x);
    }

    int wall(int k, int t) {
        if (noWall(k)) {
            return UNKNOWN;
        }
        if (out(t, 0, 20)) {
            return OUTSIDE;
        }
        keepPast();
        return now.thick.set(k, t);
    }

    int wind(int b) {
        if (out(b, 0, 18)) {
            return OUTSIDE;
        }
        if (noHouse()) {
            return NOT;
        }
        keepPast();
        int was = now.wind + 9;
        now.wind = b - 9;
        return was;
    }

    private int draw(int n) {
        seed = Math.floorMod(seed * 1103515245L + 12345L, 1L << 31);
        return (int) ((seed >> 16) % n);
    }

    int drift(int n) {
        if (out(n, 1, 60)) {
            return OUTSIDE;
        }
        if (noHouse()) {
            return NOT;
        }
        if (now.mornings > 9000) {
            return FULL;
        }
        keepPast();
        if (!sounds.isEmpty()) {
            for (int i = 0; i < n; i++) {
                int s = draw(sounds.size());
                swear(s, draw(places()));
                now.wind = draw(5) - 2;
            }
        }
        return set(now.heard);
    }

    int undo() {
        if (past.isEmpty()) {
            return NOT;
        }
        now = past.removeLast();
        return past.size();
    }

    // ---- tried

    private int loud(Now then, int s, int x, int y) {
        int loud = sounds.get(s)[0];
        for (int at = x; at != y;) {
            int next = at < y ? at + 1 : at - 1;
            loud -= then.thick.get(Math.min(at, next)) + 1;
            loud += next > at ? then.wind : -then.wind;
            at = next;
        }
        return loud;
    }

    private boolean heardByNone(Now then, int s, int x) {
        for (int w = 0; w < witnesses.size(); w++) {
            if (loud(then, s, x, then.spot.get(w)) >= witnesses.get(w)[1]) {
                return false;
            }
        }
        return true;
    }

    private int saying(int w, int pair) {
        int[] who = witnesses.get(w);
        if (who[2] == 1) {
            return sounds.isEmpty() ? 0 : 2 + sounds.get(0)[1];
        }
        if (who[2] == 2 || pair == 100) {
            return 0;
        }
        int loud = loud(now, pair / 10, pair % 10, now.spot.get(w));
        return loud < who[1] ? 0 : loud < who[1] + 5 ? 1 : 2 + sounds.get(pair / 10)[1];
    }

    int comes(int s, int x, int y) {
        return noSound(s) || noPlace(x) || noPlace(y) ? UNKNOWN : 1000 + loud(now, s, x, y);
    }

    int says(int w, int s, int x) {
        return noWitness(w) || noSound(s) || noPlace(x) ? UNKNOWN : saying(w, 10 * s + x);
    }

    int listen(int s, int x, int e) {
        if (noSound(s) || noPlace(x)) {
            return UNKNOWN;
        }
        if (out(e, 0, 30)) {
            return OUTSIDE;
        }
        List<Integer> set = new ArrayList<>();
        for (int y = 0; y < places(); y++) {
            if (loud(now, s, x, y) >= e) {
                set.add(y);
            }
        }
        return set(set);
    }

    int deaf(int s) {
        if (noSound(s)) {
            return UNKNOWN;
        }
        List<Integer> set = new ArrayList<>();
        for (int x = 0; x < places(); x++) {
            if (heardByNone(now, s, x)) {
                set.add(x);
            }
        }
        return set(set);
    }

    private boolean noPlaces(int places) {
        for (int k = 0; k < 32; k++) {
            if ((places >>> k & 1) == 1 && noPlace(k)) {
                return true;
            }
        }
        return false;
    }

    int ears(int s, int places, int e) {
        if (noSound(s) || noPlaces(places)) {
            return UNKNOWN;
        }
        if (out(e, 0, 30)) {
            return OUTSIDE;
        }
        for (int size = 0; size <= places(); size++) {
            for (int ears = 0; ears < 1 << places(); ears++) {
                boolean all = Integer.bitCount(ears) == size;
                for (int x = 0; x < places(); x++) {
                    all &= (places >> x & 1) == 0 || (listen(s, x, e) & ears) != 0;
                }
                if (all) {
                    return ears;
                }
            }
        }
        return NONE;
    }

    private static int nth(List<Integer> of, int i) {
        return i == NONE ? of.size() : i < 0 || i >= of.size() ? NONE : of.get(i);
    }

    int alike(int x, int i) {
        if (noPlace(x)) {
            return UNKNOWN;
        }
        List<Integer> pairs = new ArrayList<>();
        for (int pair = 0; pair < 60; pair++) {
            int a = pair / 10;
            int b = pair % 10;
            if (a >= b || noSound(b)) {
                continue;
            }
            boolean same = true;
            for (int w = 0; w < witnesses.size(); w++) {
                same &= saying(w, 10 * a + x) == saying(w, 10 * b + x);
            }
            if (same) {
                pairs.add(pair);
            }
        }
        return nth(pairs, i);
    }

    int hides(int k, int s, int x) {
        if (noWall(k) || noSound(s) || noPlace(x)) {
            return UNKNOWN;
        }
        for (int t = 0; t <= 99; t++) {
            Now tried = now.copy();
            tried.thick.set(k, t);
            if (heardByNone(tried, s, x)) {
                return t;
            }
        }
        return NONE;
    }

    int midwife(boolean is, int a, int b, int f, int q) {
        if (out(a, 0, 9999) || out(b, 0, 9999) || out(f, 0, 9999) || out(q, 0, 100)) {
            return OUTSIDE;
        }
        long cried = a - (is ? 0 : (long) f * q / 100);
        long not = b - (is ? (long) f * q / 100 : 0);
        return cried == not ? (is ? 1 : 0) : cried > not ? 1 : 0;
    }

    int bargain(int v, int o, int c, int what) {
        if (out(v, 0, 9999) || out(o, 0, 1000000) || out(c, 0, 999) || out(what, 0, 1)) {
            return OUTSIDE;
        }
        long least = (long) v * o / 1000000 - c;
        if (least < 0) {
            least = 0;
        }
        return (int) (what == 0 ? least : least + 2 * c > v ? v : least + 2 * c);
    }

    int found(int places) {
        if (noPlaces(places)) {
            return UNKNOWN;
        }
        long all = 0;
        long heard = 0;
        for (int s = 0; s < sounds.size(); s++) {
            for (int x = 0; x < places(); x++) {
                if ((places >> x & 1) == 1) {
                    all++;
                    heard += heardByNone(now, s, x) ? 0 : 1;
                }
            }
        }
        return all == 0 ? 0 : (int) (1000000 * heard / all);
    }

    // ---- what is said

    int say(int w, int saying) {
        if (noWitness(w)) {
            return UNKNOWN;
        }
        if (out(saying, 0, 11)) {
            return OUTSIDE;
        }
        if (said.size() == 8) {
            return FULL;
        }
        said.add(new int[] {w, saying});
        return said.size();
    }

    private List<Integer> pairs() {
        List<Integer> pairs = new ArrayList<>();
        for (int s = 0; s < sounds.size(); s++) {
            for (int x = 0; x < places(); x++) {
                pairs.add(10 * s + x);
            }
        }
        pairs.add(100);
        return pairs;
    }

    private List<Integer> births() {
        List<Integer> births = new ArrayList<>(pairs());
        for (int[] one : said) {
            births.removeIf(pair -> saying(one[0], pair) != one[1]);
        }
        return births;
    }

    int births(int i) {
        return noHouse() ? NOT : nth(births(), i);
    }

    private int lies(int pair) {
        return (int) said.stream().filter(one -> saying(one[0], pair) != one[1]).count();
    }

    int liars(int pair) {
        return !pairs().contains(pair) ? UNKNOWN : noHouse() ? NOT : lies(pair);
    }

    int leastLiars(int what) {
        if (out(what, 0, 1)) {
            return OUTSIDE;
        }
        if (noHouse()) {
            return NOT;
        }
        for (int lies = 0; lies <= 8; lies++) {
            for (int pair : pairs()) {
                if (lies(pair) == lies) {
                    return what == 0 ? pair : lies;
                }
            }
        }
        return Integer.MIN_VALUE;
    }

    int ask() {
        if (noHouse()) {
            return NOT;
        }
        int best = NONE;
        int least = Integer.MAX_VALUE;
        for (int w = 0; w < witnesses.size(); w++) {
            Map<Integer, Integer> parts = new HashMap<>();
            for (int pair : births()) {
                parts.merge(saying(w, pair), 1, Integer::sum);
            }
            int greatest = parts.values().stream().max(Integer::compare).orElse(0);
            if (parts.size() > 1 && greatest < least) {
                best = w;
                least = greatest;
            }
        }
        return best;
    }

    int write(int heard) {
        if (out(heard, 0, 7)) {
            return OUTSIDE;
        }
        if (book.size() == 15) {
            return FULL;
        }
        book.add(heard);
        return book.size();
    }

    int tear() {
        int had = said.size() + book.size();
        said.clear();
        book.clear();
        return had;
    }

    int judge() {
        for (int i = 0; i < book.size(); i++) {
            if (book.get(i) != now.heard.size()) {
                return i;
            }
        }
        return NONE;
    }

    // ---- draws, images

    int seed(int v) {
        if (v < 0) {
            return OUTSIDE;
        }
        int was = (int) seed;
        seed = v;
        return was;
    }

    int keep(int i) {
        if (out(i, 0, 1)) {
            return UNKNOWN;
        }
        images.put(i, now.copy());
        imageSeeds.put(i, seed);
        past.clear();
        return 1;
    }

    int goBack(int i) {
        if (out(i, 0, 1)) {
            return UNKNOWN;
        }
        if (!images.containsKey(i)) {
            return NOT;
        }
        now = images.get(i).copy();
        seed = imageSeeds.get(i);
        past.clear();
        return 1;
    }
}
