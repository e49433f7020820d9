import java.lang.reflect.InvocationTargetException;
import java.lang.reflect.Method;
import java.lang.reflect.Modifier;
import java.util.ArrayList;
import java.util.HashMap;
import java.util.List;
import java.util.Map;

/**
 * A new object and calls to it, told in rows: "text h1;" feeds letters, "comes 0 0 1 = 1016" is a
 * call with the answer that is due, "keep 0" one whose answer is not looked at, "20 times undo" the
 * same call so often. A run stands for a sentence of the document, which is told when it fails.
 */
final class Script {

    /** An object is used for at most so many calls: what comes later is free. */
    private static final int MOST_CALLS = 512;
    private static final Map<String, Method> CALLS = new HashMap<>();
    private static final Map<String, Integer> NAMES = Map.of("NONE", Due.NONE, "UNKNOWN", Due.UNKNOWN,
        "OUTSIDE", Due.OUTSIDE, "NOT", Due.NOT, "FULL", Due.FULL, "LEAST", Due.LEAST, "MOST", Due.MOST);

    static {
        for (Method method : FourWalls.class.getDeclaredMethods()) {
            if (Modifier.isPublic(method.getModifiers())) {
                CALLS.put(method.getName(), method);
            }
        }
    }

    private final String sentence;
    private final FourWalls x = new FourWalls();
    private int letters;
    private int calls;

    private Script(String sentence) {
        this.sentence = sentence;
    }

    static Script run(String sentence, String... rows) {
        return new Script(sentence).then(rows);
    }

    /** A run in a house of this text, which has no fault. */
    static Script in(String house, String sentence, String... rows) {
        Script script = new Script(sentence).then("text " + house);
        Due.due(sentence + ": a house of " + house, script.call("house") >= 2 ? 1 : 0, 1);
        return script.then(rows);
    }

    /** A text on a new object, with what house() and fault() answer. */
    static void text(String sentence, String text, int house, int fault) {
        run(sentence, "text " + text, "house = " + house, "fault = " + fault, "told 3 = 0");
    }

    Script then(String... rows) {
        for (String row : rows) {
            if (row.startsWith("text ")) {
                feed(row.substring(5));
            } else {
                row(row);
            }
        }
        return this;
    }

    private void feed(String text) {
        for (int i = 0; i < text.length(); i++) {
            int want = letters + 1;
            Due.due(sentence + ": letter " + i + " of \"" + text + "\"", call("feed " + (int) text.charAt(i)), want);
        }
    }

    private void row(String row) {
        int times = 1;
        String rest = row;
        if (row.contains(" times ")) {
            times = Integer.parseInt(row.substring(0, row.indexOf(" times ")));
            rest = row.substring(row.indexOf(" times ") + 7);
        }
        String[] parts = rest.split(" = ");
        for (int i = 0; i < times; i++) {
            int got = call(parts[0]);
            if (parts.length > 1) {
                Due.due(sentence + ": " + row, got, number(parts[1]));
            }
        }
    }

    /** "comes 0 0 1": what it answers. */
    int call(String call) {
        calls++;
        if (calls > MOST_CALLS) {
            Due.due(sentence + ": calls at most " + MOST_CALLS, calls, MOST_CALLS);
        }
        String[] words = call.trim().split(" +");
        Method method = CALLS.get(words[0]);
        Object[] arguments = new Object[words.length - 1];
        for (int i = 0; i < arguments.length; i++) {
            String word = words[i + 1];
            boolean truth = method.getParameterTypes()[i] == boolean.class;
            arguments[i] = truth ? (Object) word.equals("true") : (Object) number(word);
        }
        try {
            int got = (int) method.invoke(x, arguments);
            letters = words[0].equals("house") ? 0 : words[0].equals("feed") && got > 0 ? got : letters;
            return got;
        } catch (InvocationTargetException | IllegalAccessException e) {
            throw new IllegalStateException(sentence + ": " + call, e);
        }
    }

    static int number(String word) {
        return NAMES.containsKey(word) ? NAMES.get(word) : Integer.parseInt(word);
    }

    int callsSoFar() {
        return calls;
    }

    /** Both objects answer alike whatever is asked; they are used up by that. */
    static void alike(Script one, Script other) {
        List<String> whole = one.whole();
        List<String> otherWhole = other.whole();
        Due.due(one.sentence + ": as many answers", whole.size(), otherWhole.size());
        for (int i = 0; i < Math.min(whole.size(), otherWhole.size()); i++) {
            boolean same = whole.get(i).equals(otherWhole.get(i));
            Due.due(one.sentence + ": " + whole.get(i) + " and not " + otherWhole.get(i), same ? 1 : 0, 1);
        }
    }

    /** All that can be asked of an object, what can be undone and its images at last. */
    private List<String> whole() {
        List<String> all = new ArrayList<>();
        ask(all, "told", 13);
        ask(all, "thick", 8);
        for (int k = 0; k < 7; k++) {
            ask(all, "witness " + k, 4);
            ask(all, "sound " + k, 2);
        }
        ask(all, "leastLiars", 2);
        ask(all, "births", 2);
        answer(all, "births -1");
        answer(all, "judge");
        answer(all, "seed 1");
        for (int n = 0; n < 21 && answer(all, "undo") >= 0; n++) {
            where(all);
        }
        for (int i = 0; i < 2; i++) {
            answer(all, "goBack " + i);
            where(all);
            answer(all, "seed 1");
        }
        answer(all, "house");
        ask(all, "told", 5);
        answer(all, "fault");
        return all;
    }

    private void where(List<String> all) {
        for (String call : new String[] {"told 4", "told 5", "told 8", "thick 0", "witness 0 0", "witness 0 3"}) {
            answer(all, call);
        }
    }

    private void ask(List<String> all, String call, int most) {
        for (int what = 0; what < most; what++) {
            answer(all, call + " " + what);
        }
    }

    private int answer(List<String> all, String call) {
        int got = call(call);
        all.add(call + " answered " + got);
        return got;
    }
}
