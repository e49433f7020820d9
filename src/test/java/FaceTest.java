import java.io.IOException;
import java.lang.reflect.Constructor;
import java.lang.reflect.Field;
import java.lang.reflect.Method;
import java.lang.reflect.Modifier;
import java.nio.file.Files;
import java.nio.file.Path;
import java.util.Set;
import java.util.TreeSet;
import java.util.regex.Matcher;
import java.util.regex.Pattern;

/** The face that the document prints, and those rules of LANGUAGE.md that can be seen from outside. */
public final class FaceTest {

    private static final String[] FACE = {
        "int alike(int,int)", "int ask()", "int bargain(int,int,int,int)", "int births(int)",
        "int comes(int,int,int)", "int deaf(int)", "int drift(int)", "int ears(int,int,int)",
        "int fault()", "int feed(int)", "int found(int)", "int goBack(int)", "int hides(int,int,int)",
        "int house()", "int judge()", "int keep(int)", "int leastLiars(int)", "int liars(int)",
        "int listen(int,int,int)", "int midwife(boolean,int,int,int,int)", "int morning(int,int)",
        "int move(int,int)", "int say(int,int)", "int says(int,int,int)", "int seed(int)",
        "int sound(int,int)", "int tear()", "int thick(int)", "int told(int)", "int undo()",
        "int wall(int,int)", "int wind(int)", "int witness(int,int)", "int write(int)"};

    private static final String[] FORBIDDEN = {
        "\\b(throw|try|catch|finally|synchronized|assert|throws|import|package|volatile|native)\\b",
        "->", "::", "\\bstatic\\s*\\{", "@", "\\bSystem\\.(?!arraycopy)", "\\bThread\\b", "\\bException\\b",
        "\\b(float|double)\\b", "Exact\\b", "\\bString\\b", "\\bArrayList\\b", "\\bvar\\b"};

    public static void main(String[] args) throws IOException {
        constants();
        methods();
        others();
        words();
        arrays();
        Due.end("FaceTest");
    }

    private static void constants() {
        Due.due("NONE", FourWalls.NONE, -1);
        Due.due("UNKNOWN", FourWalls.UNKNOWN, -1000000001);
        Due.due("OUTSIDE", FourWalls.OUTSIDE, -1000000002);
        Due.due("NOT", FourWalls.NOT, -1000000003);
        Due.due("FULL", FourWalls.FULL, -1000000004);
    }

    private static void methods() {
        Set<String> face = new TreeSet<>();
        Set<String> names = new TreeSet<>();
        for (Method method : FourWalls.class.getDeclaredMethods()) {
            if (Modifier.isPublic(method.getModifiers())) {
                face.add(told(method));
                names.add(method.getName());
            }
        }
        Due.due("the methods of the face " + face, face.equals(new TreeSet<>(Set.of(FACE))) ? 1 : 0, 1);
        Due.due("34 methods", FACE.length, 34);
        for (Method method : FourWalls.class.getDeclaredMethods()) {
            if (!Modifier.isPublic(method.getModifiers())) {
                Due.due(told(method) + " is private", Modifier.isPrivate(method.getModifiers()) ? 1 : 0, 1);
                Due.due(told(method) + " has a name of its own", names.contains(method.getName()) ? 1 : 0, 0);
            }
        }
        for (Class<?> inside : FourWalls.class.getDeclaredClasses()) {
            for (Method method : inside.getDeclaredMethods()) {
                boolean clash = Modifier.isPrivate(method.getModifiers()) && names.contains(method.getName());
                Due.due(told(method) + " has a name of its own", clash ? 1 : 0, 0);
            }
        }
    }

    private static String told(Method method) {
        StringBuilder told = new StringBuilder(method.getReturnType() + " " + method.getName() + "(");
        for (Class<?> type : method.getParameterTypes()) {
            told.append(told.charAt(told.length() - 1) == '(' ? "" : ",").append(type);
        }
        return told.append(")").toString();
    }

    private static void others() {
        Due.due("the class is public and final", FourWalls.class.getModifiers(), Modifier.PUBLIC | Modifier.FINAL);
        Constructor<?>[] constructors = FourWalls.class.getDeclaredConstructors();
        Due.due("one constructor", constructors.length, 1);
        Due.due("it is public", constructors[0].getModifiers(), Modifier.PUBLIC);
        Due.due("it takes nothing", constructors[0].getParameterCount(), 0);
        int open = 0;
        int own = 0;
        for (Field field : FourWalls.class.getDeclaredFields()) {
            int is = field.getModifiers();
            if (!Modifier.isPrivate(is)) {
                open++;
                Due.due(field + " is a constant", is, Modifier.PUBLIC | Modifier.STATIC | Modifier.FINAL);
            }
            own += Modifier.isStatic(is) ? 0 : 1;
            Due.due(field + " is final, if static", Modifier.isStatic(is) && !Modifier.isFinal(is) ? 1 : 0, 0);
        }
        Due.due("five constants", open, 5);
        Due.due("fields of an object at most 20", own <= 20 ? 1 : 0, 1);
        int inside = FourWalls.class.getDeclaredClasses().length;
        Due.due("classes at most 12", inside + 1 <= 12 ? 1 : 0, 1);
        for (Class<?> c : FourWalls.class.getDeclaredClasses()) {
            Due.due(c + " is static", Modifier.isStatic(c.getModifiers()) ? 1 : 0, 1);
            Due.due(c + " is not public", Modifier.isPublic(c.getModifiers()) ? 1 : 0, 0);
        }
    }

    private static String code() throws IOException {
        String source = Files.readString(Path.of("src/main/java/FourWalls.java"));
        return source.replaceAll("(?s)/\\*.*?\\*/", "").replaceAll("//[^\n]*", "");
    }

    private static void words() throws IOException {
        String code = code();
        for (String pattern : FORBIDDEN) {
            Matcher matcher = Pattern.compile(pattern).matcher(code);
            Due.due("no " + pattern, matcher.find() ? 1 : 0, 0);
        }
        for (int i = 0; i < code.length(); i++) {
            if (code.charAt(i) > 127) {
                Due.due("letter " + i + " of the code", code.charAt(i), ' ');
            }
        }
    }

    /** Indices are looked at in few places; whoever adds one has to look at this line. */
    private static void arrays() throws IOException {
        Matcher matcher = Pattern.compile("\\w+\\[[^\\]]+\\]").matcher(code().replaceAll("new \\w+\\[[^\\]]*\\]", ""));
        Set<String> uses = new TreeSet<>();
        while (matcher.find()) {
            uses.add(matcher.group());
        }
        Due.due("indices " + uses, uses.equals(Set.of("images[i]", "letters[i]", "row[i]")) ? 1 : 0, 1);
    }
}
