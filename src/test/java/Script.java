import java.lang.reflect.InvocationTargetException;
import java.lang.reflect.Method;
import java.util.HashMap;
import java.util.Map;

/**
 * Calls written as text, so that a test can have them in a table: "suit 0 3" is suit(0, 3). A number may be "min" or
 * "max", the ends of int; "say sp5;" is each of these letters, "tell sp5;" the letters and then city(). Several calls
 * stand with " / " between them.
 */
final class Script {
    private static final Map<String, Method> METHODS = new HashMap<>();

    static {
        for (Method m : ArmourOfTheShy.class.getMethods()) {
            METHODS.put(m.getName() + " " + m.getParameterCount(), m);
        }
    }

    private Script() {
    }

    /** A new object behind these calls. */
    static ArmourOfTheShy made(String calls) {
        ArmourOfTheShy x = new ArmourOfTheShy();
        askAll(x, calls);
        return x;
    }

    /** The last one's answer. */
    static long askAll(ArmourOfTheShy x, String calls) {
        long answer = 0;
        for (String call : calls.split(" / ")) {
            answer = call.isEmpty() ? 0 : ask(x, call);
        }
        return answer;
    }

    static long ask(ArmourOfTheShy x, String call) {
        String[] words = call.split(" ");
        if (words[0].equals("tell")) {
            return Check.tell(x, words[1]);
        }
        if (words[0].equals("say")) {
            return say(x, words[1]);
        }
        Object[] numbers = new Object[words.length - 1];
        for (int i = 0; i < numbers.length; i++) {
            numbers[i] = number(words[i + 1]);
        }
        try {
            return ((Number) METHODS.get(words[0] + " " + numbers.length).invoke(x, numbers)).longValue();
        } catch (IllegalAccessException | InvocationTargetException e) {
            throw new IllegalStateException(call + " threw", e);
        }
    }

    /** How many letters there are then. */
    private static int say(ArmourOfTheShy x, String text) {
        int many = 0;
        for (int i = 0; i < text.length(); i++) {
            many = x.letter(text.charAt(i));
        }
        return many;
    }

    /** Each row is calls and what the last of them is due to answer: "days 3 / count 2 = 3", on a new object each. */
    static void due(String made, String... rows) {
        for (String row : rows) {
            String[] sides = row.split(" = ");
            Check.due("behind " + made + ": " + sides[0], askAll(made(made), sides[0]), Long.parseLong(sides[1]));
        }
    }

    private static int number(String word) {
        if (word.equals("min")) {
            return Integer.MIN_VALUE;
        }
        return word.equals("max") ? Integer.MAX_VALUE : Integer.parseInt(word);
    }
}
