/** Counts the answers that are not as due; shared by all tests of the project. */
final class Check {
    private static int wrong = 0;
    private static int asked = 0;

    private Check() {
    }

    static void due(String call, long got, long want) {
        asked++;
        if (got != want) {
            wrong++;
            System.out.println(call + " answered " + got + ", due is " + want);
        }
    }

    /** A new object with a city told in letters. */
    static ArmourOfTheShy told(String text) {
        ArmourOfTheShy x = new ArmourOfTheShy();
        if (tell(x, text) < 0) {
            due("city of " + text, -1, 0);
        }
        return x;
    }

    static int tell(ArmourOfTheShy x, String text) {
        for (int i = 0; i < text.length(); i++) {
            x.letter(text.charAt(i));
        }
        return x.city();
    }

    static void row(ArmourOfTheShy x, int... numbers) {
        x.clear();
        for (int v : numbers) {
            x.row(v);
        }
    }

    /** Ends the test: with exit code 1 if one answer was not as due. */
    static void end() {
        System.out.println(asked + " answers asked for, " + wrong + " not as due");
        if (wrong != 0) {
            System.exit(1);
        }
    }
}
