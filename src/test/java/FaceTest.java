import java.io.IOException;
import java.lang.reflect.Constructor;
import java.lang.reflect.Field;
import java.lang.reflect.Member;
import java.lang.reflect.Method;
import java.lang.reflect.Modifier;
import java.nio.file.Files;
import java.nio.file.Path;
import java.util.Arrays;
import java.util.Set;
import java.util.TreeSet;

/** The public face is the document's and no more, and the file keeps to those rules of LANGUAGE.md that can be seen. */
public final class FaceTest {
    private static final String[] FACE = {
        "int letter 1", "int city 0", "int suit 2", "int caller 2", "int courage 1", "int wears 2", "int takesOff 1",
        "int fears 2", "int rusts 2", "int soothes 2", "int turn 3", "int days 1", "int callerThen 3",
        "int suitThen 2", "int cost 1", "int proposes 1", "int out 1", "int still 0", "int dress 1", "int suitBest 3",
        "int change 1", "int fewest 1", "int spare 2", "int cheer 1", "int boldest 1", "int left 0", "int order 1",
        "int heard 1", "int rusted 1", "int two 3", "long rain 5", "long mean 1", "int whatIs 2", "int row 1",
        "int judge 0", "int clear 0", "int lots 3", "int image 0", "int on 0", "int count 1"};
    private static final String[] NOT_ALLOWED = {
        "import", "package", "throw", "throws", "try", "catch", "finally", "synchronized", "assert", "native", "yield",
        "var", "protected", "transient", "volatile", "->", "::", "@"};
    private static final int LONGEST_METHOD = 60;

    public static void main(String[] args) throws IOException {
        Class<?> face = ArmourOfTheShy.class;
        Check.due("public and final", face.getModifiers(), Modifier.PUBLIC | Modifier.FINAL);
        constructor(face);
        Set<String> names = methods(face);
        for (Field f : face.getDeclaredFields()) {
            isPrivate(f);
        }
        for (Class<?> inside : face.getDeclaredClasses()) {
            inside(inside, names);
        }
        Check.due("at most some twelve classes", face.getDeclaredClasses().length < 12 ? 1 : 0, 1);
        source(Files.readString(Path.of("src/main/java/ArmourOfTheShy.java")));
        Check.end();
    }

    private static void constructor(Class<?> face) {
        Constructor<?>[] all = face.getDeclaredConstructors();
        Check.due("constructors", all.length, 1);
        Check.due("a constructor's parameters", all[0].getParameterCount(), 0);
        Check.due("a public constructor", all[0].getModifiers(), Modifier.PUBLIC);
    }

    private static Set<String> methods(Class<?> face) {
        Set<String> found = new TreeSet<>();
        Set<String> names = new TreeSet<>();
        for (Method m : face.getDeclaredMethods()) {
            if (Modifier.isPublic(m.getModifiers())) {
                found.add(m.getReturnType() + " " + m.getName() + " " + m.getParameterCount());
                names.add(m.getName());
                Check.due("not static: " + m, m.getModifiers(), Modifier.PUBLIC);
                Check.due("ints: " + m, Arrays.stream(m.getParameterTypes()).allMatch(t -> t == int.class) ? 1 : 0, 1);
            }
        }
        Set<String> due = new TreeSet<>(Arrays.asList(FACE));
        Check.due("the document's methods, found " + found, found.equals(due) ? 1 : 0, 1);
        for (Method m : face.getDeclaredMethods()) {
            if (!Modifier.isPublic(m.getModifiers())) {
                isPrivate(m);
                Check.due("a public one's name: " + m, names.contains(m.getName()) ? 1 : 0, 0);
            }
        }
        return names;
    }

    private static void isPrivate(Member m) {
        Check.due("private: " + m, Modifier.isPrivate(m.getModifiers()) ? 1 : 0, 1);
    }

    private static void inside(Class<?> c, Set<String> names) {
        Check.due("static: " + c, Modifier.isStatic(c.getModifiers()) ? 1 : 0, 1);
        Check.due("not public: " + c, Modifier.isPublic(c.getModifiers()) ? 1 : 0, 0);
        for (Method m : c.getDeclaredMethods()) {
            Check.due("a public one's name: " + m, names.contains(m.getName()) ? 1 : 0, 0);
            Check.due("parameters of " + m, m.getParameterCount() <= 7 ? 1 : 0, 1);
        }
        for (Field f : c.getDeclaredFields()) {
            boolean still = !Modifier.isStatic(f.getModifiers()) || Modifier.isFinal(f.getModifiers());
            Check.due("static fields are final: " + f, still ? 1 : 0, 1);
        }
        Check.due("fields of " + c, c.getDeclaredFields().length <= 20 ? 1 : 0, 1);
    }

    private static void source(String text) {
        String code = text.replaceAll("(?s)/\\*.*?\\*/", " ").replaceAll("//[^\n]*", " ");
        code = code.replaceAll("\"[^\"\n]*\"", "\"\"");
        for (String word : NOT_ALLOWED) {
            boolean isWord = Character.isLetter(word.charAt(0));
            String sought = isWord ? "(?s).*\\b" + word + "\\b.*" : "(?s).*" + word + ".*";
            Check.due("not allowed: " + word, code.matches(sought) ? 1 : 0, 0);
        }
        Check.due("signs up to 127", text.chars().allMatch(c -> c < 128) ? 1 : 0, 1);
        Check.due("texts are not joined by +", code.contains("\"\" +") || code.contains("+ \"\"") ? 1 : 0, 0);
        methodsAreShort(text);
    }

    private static void methodsAreShort(String text) {
        String[] lines = text.split("\n");
        int start = 0;
        for (int i = 0; i < lines.length; i++) {
            if (lines[i].matches(" {4}( {4})?[a-z].*\\(.*\\) \\{")) {
                start = i;
            }
            if (lines[i].matches(" {4}( {4})?\\}")) {
                Check.due("long: " + lines[start].trim(), i - start < LONGEST_METHOD || start == 0 ? 1 : 0, 1);
                start = 0;
            }
        }
    }
}
