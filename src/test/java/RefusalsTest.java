/**
 * Every REFUSAL: its answer, which one comes first where several fit, what it leaves as it was, what is counted of it.
 * Each refused call is made on an object of its own; another one, made alike, does without it, and both must answer
 * alike to all that can be asked then.
 */
public final class RefusalsTest {
    /** 0 in a GAUNTLET, 1 in FLUTED, 2 in none; an IMAGE, a ROW and the first letters of a STATEMENT are there. */
    private static final String THREE = "tell sg9;sf4;sp0;c00;c10;c20;w00;w11; / days 2 / image / days 2"
        + " / row 4 / row 5 / say c1";
    /** No room left: six SUITS, five CALLERS, 16 in the ROW. */
    private static final String FULL = "tell sp5;sm8;sg9;sf4;sb2;so7;c03;c08;c12;c20;c00;w03;w11;w22;w34;w45;"
        + " / days 1 / row 1 / row 2 / row 3 / row 4 / row 5 / row 6" + " / row 6".repeat(10) + " / image / say c1";
    private static final String BARE = "";
    private static final String NEAR_LAST_DAY = "days 60 / ".repeat(16) + "tell c07;";
    private static final String LAST_DAY = "days 60 / ".repeat(16) + "days 39 / tell c07;";
    private static final String LETTERS_FULL = "say c17;c18;c00;" + "o0;".repeat(28);

    private static final String[] OF_THREE = {
        "letter -1 = -4", "letter min = -4", "letter 256 = -6", "letter max = -6",
        "suit -1 0 = -1", "suit 3 0 = -1", "suit min 6 = -1", "suit max 6 = -1", "suit 0 -1 = -2", "suit 2 7 = -2",
        "suit 0 min = -2", "suit 0 max = -2",
        "caller -1 0 = -1", "caller 3 0 = -1", "caller min 5 = -1", "caller max 5 = -1", "caller 0 -1 = -2",
        "caller 2 6 = -2", "caller 0 min = -2", "caller 0 max = -2",
        "courage -1 = -1", "courage 3 = -1", "courage min = -1", "courage max = -1",
        "wears -1 0 = -1", "wears 3 0 = -1", "wears min 0 = -1", "wears max 0 = -1", "wears 0 -1 = -1",
        "wears 0 3 = -1", "wears 0 min = -1", "wears 0 max = -1", "wears 0 -9 = -1",
        "takesOff -1 = -1", "takesOff 3 = -1", "takesOff min = -1", "takesOff max = -1", "takesOff 2 = -3",
        "fears -1 0 = -1", "fears 3 0 = -1", "fears min 0 = -1", "fears max 0 = -1", "fears 0 -1 = -4",
        "fears 0 min = -4", "fears 0 21 = -6", "fears 0 max = -6",
        "rusts -1 0 = -1", "rusts 3 0 = -1", "rusts min 0 = -1", "rusts max 0 = -1", "rusts 0 -1 = -4",
        "rusts 0 min = -4", "rusts 0 10 = -6", "rusts 0 max = -6",
        "soothes -1 0 = -1", "soothes 3 0 = -1", "soothes min 0 = -1", "soothes max 0 = -1", "soothes 0 -1 = -4",
        "soothes 0 min = -4", "soothes 0 21 = -6", "soothes 0 max = -6",
        "turn -1 1 1 = -1", "turn 3 1 1 = -1", "turn min 1 1 = -1", "turn max 1 1 = -1", "turn 0 -1 1 = -2",
        "turn 0 6 1 = -2", "turn 0 min 1 = -2", "turn 0 max 1 = -2", "turn 0 1 -1 = -4", "turn 0 1 min = -4",
        "turn 0 1 10 = -6", "turn 0 1 max = -6",
        "days 0 = -4", "days -1 = -4", "days min = -4", "days 61 = -6", "days max = -6",
        "callerThen -1 1 0 = -1", "callerThen 3 1 0 = -1", "callerThen min 1 0 = -1", "callerThen max 1 0 = -1",
        "callerThen 0 -1 0 = -4", "callerThen 0 min 0 = -4", "callerThen 0 61 0 = -6", "callerThen 0 max 0 = -6",
        "callerThen 0 1 -1 = -2", "callerThen 0 1 3 = -2", "callerThen 0 1 min = -2", "callerThen 0 1 max = -2",
        "suitThen -1 1 = -1", "suitThen 3 1 = -1", "suitThen min 1 = -1", "suitThen max 1 = -1", "suitThen 0 -1 = -4",
        "suitThen 0 min = -4", "suitThen 0 61 = -6", "suitThen 0 max = -6",
        "cost -1 = -4", "cost min = -4", "cost 61 = -6", "cost max = -6",
        "proposes -2 = -1", "proposes 3 = -1", "proposes min = -1", "proposes max = -1",
        "out -1 = -1", "out 3 = -1", "out min = -1", "out max = -1",
        "dress -2 = -1", "dress 3 = -1", "dress min = -1", "dress max = -1",
        "suitBest -1 1 0 = -1", "suitBest 3 1 0 = -1", "suitBest min 1 0 = -1", "suitBest max 1 0 = -1",
        "suitBest 0 -1 0 = -4", "suitBest 0 min 0 = -4", "suitBest 0 31 0 = -6", "suitBest 0 max 0 = -6",
        "suitBest 0 1 -1 = -2", "suitBest 0 1 2 = -2", "suitBest 0 1 min = -2", "suitBest 0 1 max = -2",
        "change -1 = -4", "change min = -4", "change 21 = -6", "change max = -6",
        "fewest -1 = -4", "fewest min = -4", "fewest 31 = -6", "fewest max = -6",
        "spare 0 0 = -4", "spare -1 0 = -4", "spare min 0 = -4", "spare 31 0 = -6", "spare max 0 = -6",
        "spare 1 -1 = -2", "spare 1 2 = -2", "spare 1 min = -2", "spare 1 max = -2",
        "cheer -1 = -4", "cheer min = -4", "cheer 31 = -6", "cheer max = -6",
        "boldest -1 = -2", "boldest 2 = -2", "boldest min = -2", "boldest max = -2",
        "order -1 = -4", "order min = -4",
        "heard -1 = -1", "heard 6 = -1", "heard min = -1", "heard max = -1",
        "rusted -1 = -1", "rusted 3 = -1", "rusted min = -1", "rusted max = -1",
        "two -1 1 1 = -1", "two 3 1 1 = -1", "two min 1 1 = -1", "two max 1 1 = -1", "two 0 -1 1 = -1",
        "two 0 3 1 = -1", "two 0 min 1 = -1", "two 0 max 1 = -1", "two 1 1 1 = -1", "two 0 1 -1 = -4",
        "two 0 1 min = -4", "two 0 1 31 = -6", "two 0 1 max = -6", "two 2 1 1 = -3", "two 0 2 1 = -3",
        "rain -1 1 2 1 0 = -1", "rain 3 1 2 1 0 = -1", "rain min 1 2 1 0 = -1", "rain max 1 2 1 0 = -1",
        "rain 0 -1 2 1 0 = -4", "rain 0 min 2 1 0 = -4", "rain 0 1 2 -1 0 = -4", "rain 0 1 2 min 0 = -4",
        "rain 0 1 1 1 0 = -4", "rain 0 1 0 1 0 = -4", "rain 0 1 -1 1 0 = -4", "rain 0 1 min 1 0 = -4",
        "rain 0 8 2 1 0 = -6", "rain 0 max 2 1 0 = -6", "rain 0 1 21 1 0 = -6", "rain 0 1 max 1 0 = -6",
        "rain 0 1 2 7 0 = -6", "rain 0 1 2 max 0 = -6", "rain 0 1 2 1 -1 = -2", "rain 0 1 2 1 2 = -2",
        "rain 0 1 2 1 min = -2", "rain 0 1 2 1 max = -2",
        "mean -1 = -2", "mean 2 = -2", "mean min = -2", "mean max = -2",
        "whatIs -1 0 = -1", "whatIs 3 0 = -1", "whatIs min 0 = -1", "whatIs max 0 = -1", "whatIs 0 -1 = -2",
        "whatIs 0 2 = -2", "whatIs 0 min = -2", "whatIs 0 max = -2",
        "row -1 = -4", "row min = -4", "row 100 = -6", "row max = -6",
        "lots 0 1 0 = -4", "lots -1 1 0 = -4", "lots min 1 0 = -4", "lots 21 1 0 = -6", "lots max 1 0 = -6",
        "lots 1 1 -1 = -2", "lots 1 1 2 = -2", "lots 1 1 min = -2", "lots 1 1 max = -2"};

    /** Two that fit, or more: the first in the order in which the promise tells them. */
    private static final String[] FIRST_OF_SEVERAL = {
        "suit 3 7 = -1", "suit -1 -1 = -1", "caller 3 6 = -1", "caller -1 -1 = -1", "wears 3 3 = -1",
        "wears -1 -1 = -1", "fears 3 -1 = -1", "fears 3 21 = -1", "rusts 3 -1 = -1", "rusts 3 10 = -1",
        "soothes 3 -1 = -1", "soothes 3 21 = -1",
        "turn 3 6 1 = -1", "turn 3 1 -1 = -1", "turn 3 1 10 = -1", "turn 3 6 -1 = -1", "turn 3 6 10 = -1",
        "turn 0 6 -1 = -2", "turn 0 -1 -1 = -2", "turn 0 6 10 = -2", "turn 0 -1 10 = -2",
        "callerThen 3 -1 0 = -1", "callerThen 3 61 0 = -1", "callerThen 3 1 3 = -1", "callerThen 3 -1 3 = -1",
        "callerThen 3 61 3 = -1", "callerThen 0 -1 3 = -4", "callerThen 0 61 3 = -6", "callerThen 0 -1 -1 = -4",
        "suitThen 3 -1 = -1", "suitThen 3 61 = -1",
        "suitBest 3 -1 0 = -1", "suitBest 3 31 0 = -1", "suitBest 3 1 2 = -1", "suitBest 3 -1 2 = -1",
        "suitBest 3 31 2 = -1", "suitBest 0 -1 2 = -4", "suitBest 0 31 2 = -6",
        "spare 0 2 = -4", "spare 31 2 = -6", "spare 0 -1 = -4", "spare 31 -1 = -6",
        "two 3 3 1 = -1", "two 0 0 -1 = -1", "two 0 0 31 = -1", "two 2 2 1 = -1", "two 2 2 -1 = -1",
        "two 2 3 1 = -1", "two 3 2 1 = -1", "two 0 3 -1 = -1", "two 0 3 31 = -1", "two 3 0 -1 = -1",
        "two 3 0 31 = -1", "two 2 1 -1 = -4", "two 0 2 -1 = -4", "two 2 1 31 = -6", "two 0 2 31 = -6",
        "rain 3 -1 2 1 0 = -1", "rain 3 1 1 1 0 = -1", "rain 3 1 2 -1 0 = -1", "rain 3 8 2 1 0 = -1",
        "rain 3 1 21 1 0 = -1", "rain 3 1 2 7 0 = -1", "rain 3 1 2 1 2 = -1", "rain 3 -1 21 7 2 = -1",
        "rain 0 -1 21 1 0 = -4", "rain 0 -1 2 7 0 = -4", "rain 0 8 1 1 0 = -4", "rain 0 1 1 7 0 = -4",
        "rain 0 8 2 -1 0 = -4", "rain 0 1 21 -1 0 = -4", "rain 0 8 21 -1 2 = -4", "rain 0 -1 2 1 2 = -4",
        "rain 0 1 1 1 2 = -4", "rain 0 1 2 -1 2 = -4", "rain 0 8 2 1 2 = -6", "rain 0 1 21 1 2 = -6",
        "rain 0 1 2 7 -1 = -6",
        "whatIs 3 2 = -1", "whatIs -1 -1 = -1", "whatIs 2 2 = -2",
        "lots 0 1 2 = -4", "lots 0 1 -1 = -4", "lots 21 1 2 = -6", "lots 21 1 -1 = -6"};

    /** Of a new object: no SUIT, no CALLER, no IMAGE. */
    private static final String[] OF_BARE = {
        "letter -1 = -4", "letter 256 = -6", "suit 0 0 = -1", "suit 0 7 = -1", "caller 0 0 = -1", "caller 0 6 = -1",
        "courage 0 = -1", "wears 0 0 = -1", "takesOff 0 = -1", "fears 0 0 = -1", "fears 0 21 = -1", "rusts 0 0 = -1",
        "rusts 0 -1 = -1", "soothes 0 0 = -1", "soothes 0 21 = -1", "turn 0 0 0 = -1", "turn 0 6 10 = -1",
        "days 0 = -4", "days 61 = -6", "callerThen 0 0 0 = -1", "suitThen 0 0 = -1", "cost -1 = -4", "cost 61 = -6",
        "proposes 0 = -1", "proposes -2 = -1", "out 0 = -1", "dress 0 = -1", "dress -2 = -1", "suitBest 0 0 0 = -1",
        "change -1 = -4", "change 21 = -6", "fewest -1 = -4", "fewest 31 = -6", "spare 0 0 = -4", "spare 31 0 = -6",
        "spare 1 2 = -2", "cheer -1 = -4", "cheer 31 = -6", "boldest 2 = -2", "order -1 = -4", "heard -1 = -1",
        "heard 6 = -1", "rusted 0 = -1", "two 0 1 1 = -1", "two 0 0 1 = -1", "rain 0 1 2 1 0 = -1", "mean 2 = -2",
        "whatIs 0 0 = -1", "row -1 = -4", "row 100 = -6", "lots 0 1 0 = -4", "lots 21 1 0 = -6", "lots 1 1 2 = -2",
        "on = -3"};

    private static final String[] OF_FULL = {
        "suit 6 0 = -1", "caller 5 0 = -1", "courage 5 = -1", "wears 5 0 = -1", "wears 0 6 = -1", "takesOff 5 = -1",
        "fears 5 0 = -1", "rusts 6 0 = -1", "soothes 5 0 = -1", "turn 6 0 0 = -1", "callerThen 5 0 0 = -1",
        "suitThen 6 0 = -1", "proposes 5 = -1", "out 5 = -1", "dress 5 = -1", "suitBest 5 0 0 = -1", "rusted 6 = -1",
        "two 5 0 0 = -1", "two 0 5 0 = -1", "rain 5 0 2 0 0 = -1", "whatIs 6 0 = -1",
        // BELOW is told ahead of ROOM, also where there is no room for any number.
        "row 0 = -6", "row 99 = -6", "row 100 = -6", "row -1 = -4", "row min = -4"};

    public static void main(String[] args) {
        refused(THREE, OF_THREE);
        refused(THREE, FIRST_OF_SEVERAL);
        refused(BARE, OF_BARE);
        refused(FULL, OF_FULL);
        refused(LETTERS_FULL, "letter 0 = -6", "letter 59 = -6", "letter 255 = -6", "letter 256 = -6",
            "letter -1 = -4", "letter min = -4");
        refused(NEAR_LAST_DAY, "days 40 = -6", "days 60 = -6", "days 61 = -6", "days 0 = -4");
        refused(LAST_DAY, "days 1 = -6", "days 60 = -6", "days 61 = -6", "days max = -6", "days 0 = -4");
        theOnesThatNeverRefuse();
        counted();
        Check.end();
    }

    private static void refused(String made, String... rows) {
        for (String row : rows) {
            String[] sides = row.split(" = ");
            refusedOnce(made, sides[0], Integer.parseInt(sides[1]));
        }
    }

    private static void refusedOnce(String made, String call, int why) {
        ArmourOfTheShy x = Script.made(made);
        ArmourOfTheShy without = Script.made(made);
        String text = call + " behind " + made;
        Check.due(text, Script.ask(x, call), told(call, why));
        for (int what = 11; what <= 16; what++) {
            Check.due(text + ", count(" + what + ")", x.count(what), what == 10 - why ? 1 : 0);
        }
        Check.due(text + ", again", Script.ask(x, call), told(call, why));
        Check.due(text + ", counted again", x.count(10 - why), 2);
        Alike.all(text, x, without);
    }

    /** As the REFUSAL's number, or for courage() and the longs as far behind a greater one. */
    private static long told(String call, int why) {
        if (call.startsWith("courage ")) {
            return 1000000000L - why;
        }
        return call.startsWith("rain ") || call.startsWith("mean ") ? 4000000000000000000L - why : why;
    }

    /** Of what answers -9, 0 or a FAULT nothing is counted. */
    private static void theOnesThatNeverRefuse() {
        String[] calls = {"city", "tell x", "tell c21;", "still", "left", "judge", "clear", "image", "proposes -1",
            "dress -1", "order 6", "order max", "boldest 0", "boldest 1", "change 0", "cheer 0", "spare 1 0",
            "spare 1 1", "mean 0", "count 8", "count 9", "count 10", "count 17", "count -1", "count min", "count max"};
        for (String call : calls) {
            for (String made : new String[] {BARE, FULL}) {
                ArmourOfTheShy x = Script.made(made);
                Script.ask(x, call);
                for (int what = 11; what <= 16; what++) {
                    Check.due(call + " behind " + made + ", count(" + what + ")", x.count(what), 0);
                }
            }
        }
    }

    /** 11 .. 16 are -1 .. -6, each by itself; a what that is none is not counted as OTHER. */
    private static void counted() {
        ArmourOfTheShy x = Script.made("suit 0 0 / mean 2 / mean 3 / on / on / on / row -1 / row -1 / row -1 / row -1"
            + " / row 100 / row 100 / row 100 / row 100 / row 100");
        int[] due = {1, 2, 3, 4, 0, 5};
        for (int i = 0; i < due.length; i++) {
            Check.due("count(" + (11 + i) + ")", x.count(11 + i), due[i]);
        }
        Check.due("count(10)", x.count(10), -9);
        Check.due("count(17)", x.count(17), -9);
        Check.due("count(12) behind them", x.count(12), 2);
    }
}
