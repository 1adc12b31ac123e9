import java.lang.reflect.InvocationTargetException;
import java.lang.reflect.Method;
import java.util.Arrays;
import java.util.HashMap;
import java.util.Map;
import java.util.Random;

/** Runs of calls by a fixed seed, on the class and on the model; every answer is compared, and nothing may throw. */
public final class ModelTest {
    private static final int RUNS = 1500;
    /** Of each method: S where it asks for a SUIT, C for a CALLER, else the greatest number that is in range. */
    private static final String[] CALLS = {
        "suit S 6", "caller C 5", "courage C", "wears C S", "wears C S", "wears C S", "takesOff C", "fears C 20",
        "rusts S 9", "soothes C 20", "soothes C 20", "turn S 5 9", "days 60", "days 2", "callerThen C 60 2",
        "suitThen S 60", "cost 60", "proposes C", "out C", "still", "dress C", "dress C", "suitBest C 30 1",
        "change 20", "change 20", "fewest 30", "fewest 30", "spare 30 1", "cheer 30", "boldest 1", "left", "order 5",
        "heard 5", "rusted S", "two C C 30", "two C C 30", "two C C 30", "rain C 7 20 6 1", "rain C 7 20 6 1",
        "rain C 7 20 6 1", "mean 1", "whatIs S 1", "row 99", "judge", "clear", "lots 20 2000000000 1", "image", "on",
        "on", "count 16", "letter 255", "city"};
    private static final int[] EXTREME = {Integer.MIN_VALUE, Integer.MAX_VALUE, -1000000, 1000000, -2, 100, 256};

    private final Random lot;
    private final int number;
    private final ArmourOfTheShy x = new ArmourOfTheShy();
    private final Model model = new Model();
    private final Map<String, Method> methods = new HashMap<>();
    private final StringBuilder story = new StringBuilder();
    private int calls = 0;
    private boolean same = true;

    private ModelTest(int number) {
        this.number = number;
        lot = new Random(number);
        for (Method m : ArmourOfTheShy.class.getDeclaredMethods()) {
            methods.put(m.getName(), m);
        }
    }

    public static void main(String[] args) throws IllegalAccessException {
        for (int run = 1; run <= RUNS; run++) {
            new ModelTest(run).run();
        }
        Check.end();
    }

    private void run() throws IllegalAccessException {
        if (lot.nextInt(10) > 0) {
            tell(fullCity());
            both("image");
        }
        while (calls < 400 && same) {
            int dice = lot.nextInt(100);
            if (dice < 3) {
                tell(lot.nextBoolean() ? someStatement() : spoilt(someCity()));
            } else if (dice < 8) {
                tellTheRow();
            } else {
                String[] words = CALLS[lot.nextInt(CALLS.length)].split(" ");
                both(words[0], someNumbers(words));
            }
        }
        lookAtAll();
    }

    private int[] someNumbers(String[] words) {
        int[] numbers = new int[words.length - 1];
        for (int i = 0; i < numbers.length; i++) {
            int greatest = greatestOf(words[i + 1]);
            int dice = lot.nextInt(200);
            if (dice < 3) {
                numbers[i] = EXTREME[lot.nextInt(EXTREME.length)];
            } else if (dice < 10) {
                numbers[i] = lot.nextBoolean() ? -1 : greatest + 1;
            } else {
                numbers[i] = lot.nextInt((lot.nextBoolean() ? greatest : Math.min(greatest, 8)) + 1);
            }
        }
        return numbers;
    }

    private int greatestOf(String word) {
        if (word.equals("S")) {
            return Math.max(model.w.suits.size() - 1, 0);
        }
        return word.equals("C") ? Math.max(model.w.callers.size() - 1, 0) : Integer.parseInt(word);
    }

    /** What one of them will say, so that whatIs has something to find; or what all fear. */
    private void tellTheRow() throws IllegalAccessException {
        both("clear");
        int many = lot.nextInt(9);
        boolean fears = lot.nextInt(3) == 0;
        int caller = lot.nextInt(5);
        for (int i = 0; i < many && model.w.callers.size() > 0; i++) {
            int at = fears ? i : caller;
            if (at >= model.w.callers.size()) {
                at = 0;
            }
            both("row", (int) model.call("callerThen", at, fears ? 0 : i, fears ? 1 : 0));
        }
        both(fears ? "judge" : "whatIs", fears ? new int[0] : new int[] {lot.nextInt(6), lot.nextInt(2)});
    }

    private String fullCity() {
        return peopled(1 + lot.nextInt(6), 1 + lot.nextInt(5));
    }

    private String someCity() {
        StringBuilder text = new StringBuilder(peopled(lot.nextInt(7), lot.nextInt(6)));
        int more = lot.nextInt(5);
        for (int i = 0; i < more; i++) {
            text.append(someStatement());
        }
        return text.toString();
    }

    private String peopled(int suits, int callers) {
        StringBuilder text = new StringBuilder();
        for (int i = 0; i < suits; i++) {
            text.append('s').append("pmgfbo".charAt(lot.nextInt(6))).append(lot.nextInt(10)).append(';');
        }
        for (int i = 0; i < callers; i++) {
            text.append('c').append(twoDigits(lot.nextInt(21))).append(';');
        }
        for (int i = 0; i < callers && suits > 0; i++) {
            text.append('w').append(i).append(lot.nextInt(suits)).append(';');
        }
        return text.toString();
    }

    private String someStatement() {
        switch (lot.nextInt(7)) {
            case 0: return "s" + "pmgfbo".charAt(lot.nextInt(6)) + lot.nextInt(10) + ";";
            case 1: return "c" + twoDigits(lot.nextInt(23)) + ";";
            case 2: return "w" + lot.nextInt(6) + lot.nextInt(7) + ";";
            case 3: return "o" + lot.nextInt(6) + ";";
            case 4: return "f" + lot.nextInt(6) + twoDigits(lot.nextInt(23)) + ";";
            case 5: return "r" + lot.nextInt(7) + lot.nextInt(10) + ";";
            default: return "d" + twoDigits(lot.nextInt(8) == 0 ? lot.nextInt(100) : lot.nextInt(9)) + ";";
        }
    }

    private String spoilt(String text) {
        if (text.isEmpty() || lot.nextInt(3) == 0) {
            return text;
        }
        int at = lot.nextInt(text.length());
        String signs = "spmgfbocword0159;: x" + (char) 0 + (char) 233;
        String sign = String.valueOf(signs.charAt(lot.nextInt(signs.length())));
        return text.substring(0, at) + sign + text.substring(at + lot.nextInt(2));
    }

    private static String twoDigits(int v) {
        return "" + v / 10 + v % 10;
    }

    private void tell(String text) throws IllegalAccessException {
        for (int i = 0; i < text.length(); i++) {
            both("letter", text.charAt(i));
        }
        both("city");
    }

    private void lookAtAll() throws IllegalAccessException {
        for (int what = -1; what <= 17; what++) {
            both("count", what);
        }
        for (int s = 0; s < 6; s++) {
            for (int what = 0; what < 7; what++) {
                both("suit", s, what);
            }
        }
        for (int c = 0; c < 5; c++) {
            for (int what = 0; what < 6; what++) {
                both("caller", c, what);
            }
        }
    }

    private void both(String name, int... numbers) throws IllegalAccessException {
        if (!same) {
            return;
        }
        calls++;
        String call = name + Arrays.toString(numbers);
        String before = model.toString();
        long want = model.call(name, numbers);
        long got = answerOf(name, numbers, call);
        same = got == want;
        story.append(call).append(' ');
        Check.due("run " + number + ": " + call + (same ? "" : " in " + before), got, want);
    }

    private long answerOf(String name, int[] numbers, String call) throws IllegalAccessException {
        Object[] boxed = Arrays.stream(numbers).boxed().toArray();
        try {
            return ((Number) methods.get(name).invoke(x, boxed)).longValue();
        } catch (InvocationTargetException e) {
            System.out.println(call + " threw " + e.getCause() + " behind " + story);
            return Long.MIN_VALUE;
        }
    }
}
