/**
 * The least and the greatest number that each call takes, with its answer and what becomes of it. The first ones on
 * either side, which are refused, stand in RefusalsTest.
 */
public final class TakenTest {
    /** 0 says one a DAY in a GAUNTLET, 1 says five in FLUTED and is too sore then, 2 is in none. */
    private static final String THREE = "tell sg9;sf4;sp0;c00;c10;c20;w00;w11;";
    private static final String SIX = "tell sp5;sm8;sg9;sf4;sb2;so7;c03;c08;c12;c20;c00;w03;w11;w22;w34;w45;";
    private static final String SAID = " / days 3";

    public static void main(String[] args) {
        letters();
        things();
        becoming();
        days();
        inMind();
        best();
        looks();
        rain();
        row();
        lots();
        nothingIsCounted();
        Check.end();
    }

    private static void letters() {
        Script.due("", "letter 0 = 1", "letter 255 = 1", "letter 0 / count 7 = 1", "letter 0 / city = -1000",
            "letter 255 / city = -1000");
        String most = "say c17;c18;c00;" + "o0;".repeat(27) + "o0";
        Script.due(most, "count 7 = 95", "letter 59 = 96", "letter 0 = 96", "letter 255 = 96", "letter 59 / city = 31",
            "letter 59 / city / count 1 = 3", "letter 59 / letter 59 / city = 31", "letter 0 / city = -1095");
    }

    /** The first and the last SUIT, CALLER, SAYING and what. */
    private static void things() {
        Script.due(THREE, "suit 0 0 = 2", "suit 2 0 = 0", "suit 0 6 = 0", "suit 2 6 = -9", "caller 0 0 = 0",
            "caller 2 0 = 20", "caller 0 5 = 0", "caller 2 5 = 16", "courage 0 = 6", "courage 2 = -20");
        Script.due(SIX, "suit 5 0 = 5", "suit 5 1 = 7", "suit 5 6 = 4", "suit 0 6 = -9", "caller 4 0 = 0",
            "caller 4 3 = 5", "courage 4 = 9", "wears 4 5 = 5", "wears 4 0 = 5", "wears 0 5 = 3", "takesOff 4 = 5",
            "fears 4 1 = 0", "rusts 5 1 = 0", "soothes 4 1 = 0", "turn 5 0 0 = 57", "callerThen 4 1 0 = 1",
            "suitThen 5 1 = 4", "proposes 4 = 6", "out 4 = 10", "dress 4 = 2", "rusted 5 = -9", "whatIs 5 0 = 63",
            "whatIs 5 1 = 1023", "rain 4 1 2 1 0 = 1", "order 5 = 2");
        Script.due(THREE, "heard 0 = 0", "heard 5 = 0", "days 5 / heard 0 = 2", "days 5 / heard 5 = 0",
            "days 6 / heard 5 = 1");
    }

    private static void becoming() {
        Script.due(THREE, "wears 0 0 = 0", "wears 2 2 = -9", "wears 2 2 / suit 2 6 = 2", "takesOff 0 = 0",
            "takesOff 0 / suit 0 6 = -9", "wears 0 2 / takesOff 0 = 2", "fears 0 20 = 0",
            "fears 0 20 / caller 0 0 = 20", "fears 2 0 = 20", "fears 2 0 / caller 2 0 = 0", "rusts 0 9 = 0",
            "rusts 2 9 / suit 2 2 = 9", "rusts 0 9 / rusts 0 0 = 9", "rusts 0 9 / rusts 0 0 / suit 0 2 = 0",
            "soothes 0 20 = 0", "soothes 2 20 / caller 2 1 = 20", "soothes 0 20 / soothes 0 0 = 20",
            "soothes 0 20 / soothes 0 0 / caller 0 1 = 0");
        Script.due(THREE, "turn 0 0 0 = 29", "turn 0 0 0 / suit 0 0 = 0", "turn 0 0 0 / suit 0 1 = 0",
            "turn 2 5 9 = 0", "turn 2 5 9 / suit 2 0 = 5", "turn 2 5 9 / suit 2 1 = 9", "turn 2 5 9 / turn 2 5 9 = 59");
    }

    private static void days() {
        Script.due(THREE, "days 1 = 2", "days 1 / count 2 = 1", "days 60 = 11", "days 60 / count 2 = 60");
        String near = "days 60 / ".repeat(16) + THREE;
        Script.due(near, "count 2 = 960", "days 39 = 11", "days 39 / count 2 = 999", "days 38 / days 1 / count 2 = 999",
            "cost 60 / days 39 / count 2 = 999", "days 39 / days 1 / count 2 = 999",
            "tell d39; = 1", "tell d39; / count 2 = 999");
    }

    private static void inMind() {
        Script.due(THREE, "callerThen 0 0 0 = 0", "callerThen 2 0 1 = 20", "callerThen 0 60 0 = 6",
            "callerThen 0 60 1 = 20", "callerThen 1 60 1 = 5", "callerThen 2 60 2 = 0", "suitThen 0 0 = 0",
            "suitThen 0 60 = 0", "suitThen 1 60 = -9", "suitThen 2 60 = -9", "cost 0 = 0", "cost 60 = 90",
            "proposes -1 = 0", "proposes 0 = 6", "proposes 2 = -9", "out 0 = -9", "out 2 = 0");
        Script.due(THREE + SAID, "callerThen 0 0 0 = 3", "callerThen 1 0 1 = 7", "callerThen 1 0 2 = 9");
    }

    private static void best() {
        Script.due(THREE, "dress -1 = 3", "dress 0 = 2", "dress 2 = 1", "suitBest 0 0 0 = -9", "suitBest 0 0 1 = -9",
            "suitBest 2 30 0 = 1", "suitBest 2 30 1 = 1", "change 0 = -9", "change 20 = -9", "fewest 0 = 0",
            "fewest 30 = 1", "spare 1 0 = 0", "spare 1 1 = 1", "spare 30 0 = 1", "spare 30 1 = 6", "cheer 0 = -9",
            "cheer 30 = -9");
        Script.due("tell sg9;sb9;c00;c20;w01;w10;", "change 20 = 1", "change 1 = 1", "change 0 = -9");
        Script.due("tell sp0;c11;w00;", "cheer 30 = 0", "cheer 1 = 0", "cheer 0 = -9");
    }

    private static void looks() {
        Script.due(THREE, "boldest 0 = 0", "boldest 1 = 0", "order 0 = 1", "order 2 = 2", "order 3 = -9",
            "order max = -9", "rusted 0 = -9", "rusted 2 = -9", "two 0 1 0 = 0", "two 1 0 30 = 11", "mean 0 = 142",
            "mean 1 = 3", "whatIs 0 0 = 63", "whatIs 0 1 = 1023", "whatIs 2 0 = 0", "whatIs 2 1 = 0");
    }

    private static void rain() {
        Script.due(THREE, "rain 0 0 2 0 0 = 1", "rain 0 0 2 0 1 = 1", "rain 0 0 20 6 0 = 0", "rain 0 0 20 6 1 = 1",
            "rain 0 7 2 6 0 = 1", "rain 0 7 20 6 1 = 1", "rain 2 7 20 0 0 = 1", "rain 2 7 20 1 0 = 0",
            "rain 2 7 20 1 1 = 1");
        // He speaks as long as it has not rained: (1 / 2) and (19 / 20) to the DAYS.
        Script.due("tell sg0;c06;w00;", "rain 0 1 2 1 0 = 1", "rain 0 1 2 1 1 = 2", "rain 0 1 20 1 0 = 19",
            "rain 0 1 20 1 1 = 20", "rain 0 7 2 6 0 = 1", "rain 0 7 2 6 1 = 64", "rain 0 7 20 6 0 = 47045881",
            "rain 0 7 20 6 1 = 64000000", "rain 0 7 20 1 0 = 19", "rain 0 7 20 1 1 = 20");
    }

    private static void row() {
        Script.due("", "row 0 = 1", "row 99 = 1");
        Script.due("row 0 / row 99" + " / row 0".repeat(13), "count 6 = 15", "row 0 = 16", "row 99 = 16",
            "row 99 / count 6 = 16", "row 99 / row 99 / count 6 = 16", "row 99 / clear = 16",
            "row 99 / row 99 / clear = 16");
    }

    /** By FEAR up to 6 he says six, else none. Of the first 20 DRAWS by seed 0 nine are 6 or less; by -1 four. */
    private static void lots() {
        Script.due("tell sg0;c20;w00;", "lots 1 0 0 = 6", "lots 1 0 1 = 8", "lots 20 0 0 = 54", "lots 20 0 1 = 160",
            "lots 20 min 0 = 54", "lots 1 min 0 = 6", "lots 1 max 0 = 0", "lots 3 max 0 = 6", "lots 20 max 0 = 24",
            "lots 20 -1 0 = 24", "lots 20 max 1 = 160");
    }

    private static void nothingIsCounted() {
        ArmourOfTheShy x = Script.made(SIX + " / letter 0 / letter 255 / city / days 1 / days 60 / cost 0 / cost 60"
            + " / heard 0 / heard 5 / order 0 / order max / row 0 / row 99 / lots 1 min 0 / lots 20 max 1 / change 0"
            + " / change 20 / fewest 0 / fewest 30 / spare 1 0 / spare 30 1 / cheer 0 / cheer 30 / proposes -1"
            + " / dress -1 / rain 4 7 20 6 1 / rain 0 0 2 0 0 / callerThen 4 60 2 / suitThen 5 60 / turn 5 5 9"
            + " / turn 0 0 0 / wears 4 5 / wears 3 4 / two 4 3 0 / two 3 4 30 / takesOff 4 / suitBest 4 30 1");
        for (int what = 11; what <= 16; what++) {
            Check.due("nothing is counted: count(" + what + ")", x.count(what), 0);
        }
    }
}
