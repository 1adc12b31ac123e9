/** What is asked in mind and looked at (II.), where nobody is there, several are alike, or a bound is met. */
public final class ThoughtEdgesTest {
    /** 0 says one a DAY in a GAUNTLET, 1 says five in FLUTED and is too sore then, 2 is in none. */
    private static final String THREE = "tell sg9;sf4;sp0;c00;c10;c20;w00;w11;";
    private static final String SIX = "tell sp5;sm8;sg9;sf4;sb2;so7;c03;c08;c12;c20;c00;w03;w11;w22;w34;w45;";

    public static void main(String[] args) {
        nothingThere();
        noSuits();
        noCallers();
        noRoomLeft();
        proposesAndFirst();
        outAndStill();
        dress();
        suitBest();
        change();
        fewest();
        spare();
        cheer();
        boldestAndSorest();
        leftAndOrder();
        heard();
        rusted();
        thoughtsAreApart();
        Check.end();
    }

    private static void nothingThere() {
        Script.due("", "days 1 = 0", "days 60 = 0", "cost 60 = 0", "proposes -1 = -9", "still = 0", "dress -1 = 0",
            "change 20 = -9", "fewest 30 = 0", "spare 30 0 = -9", "spare 30 1 = -9", "cheer 30 = -9", "boldest 0 = -9",
            "boldest 1 = -9", "left = 0", "order 0 = -9", "heard 0 = 0", "heard 5 = 0", "mean 0 = 0", "mean 1 = 1",
            "judge = -9", "clear = 0", "lots 20 5 0 = 0", "lots 20 5 1 = 0", "image = 0", "image / on = 0",
            "city = -1000");
    }

    private static void noSuits() {
        Script.due("tell c00;c05;", "days 60 = 0", "cost 60 = 0", "proposes -1 = -9", "proposes 0 = -9", "out 1 = 0",
            "still = 0", "dress -1 = 1", "dress 0 = -9", "dress 1 = -9", "suitBest 0 30 0 = -9", "suitBest 0 30 1 = -9",
            "change 20 = -9", "fewest 30 = 0", "spare 30 0 = -9", "spare 30 1 = -9", "cheer 30 = -9", "boldest 0 = 0",
            "left = 0", "order 0 = -9", "rain 0 7 2 1 0 = 0", "rain 0 7 2 1 1 = 1", "rain 0 7 2 0 0 = 1", "mean 0 = 95",
            "mean 1 = 2", "lots 20 5 0 = 0", "lots 20 5 1 = 0");
    }

    private static void noCallers() {
        Script.due("tell sp0;sp9;", "days 60 = 0", "cost 60 = 0", "suitThen 1 60 = -9", "proposes -1 = -9", "still = 0",
            "dress -1 = 0", "change 20 = -9", "fewest 30 = 0", "spare 30 1 = -9", "cheer 30 = -9", "boldest 0 = -9",
            "left = 3", "order 0 = 1", "order 1 = 0", "order 2 = -9", "rusted 1 = -9", "whatIs 1 0 = 0", "mean 1 = 1",
            "row 0 / whatIs 1 1 = 0", "row 0 / judge = 0", "lots 20 5 0 = 0");
    }

    /** Six SUITS, five CALLERS, all in a SUIT: the last of each counts as the others do. */
    private static void noRoomLeft() {
        String worn = "tell sg9;sg9;sg9;sg9;sg9;sf4;c00;c00;c00;c00;c20;w00;w11;w22;w33;w45;";
        Script.due(worn, "days 1 = 5", "cost 1 = 10", "count 5 = 20", "left = 16", "still = 6", "dress -1 = 5",
            "proposes 3 = 6", "proposes 4 = -9", "spare 6 0 = 4", "spare 6 1 = 24", "fewest 6 = 15", "fewest 5 = 0",
            "cheer 6 = 4", "change 6 = -9", "boldest 0 = 0", "mean 0 = 54", "mean 1 = 1", "days 1 / heard 0 = 5",
            "lots 1 0 1 = 62", "two 4 3 6 = 1", "two 3 4 6 = 10", "suitBest 4 6 0 = 5", "suitBest 4 6 1 = 1");
        Script.due(SIX, "left = 1", "order 0 = 4", "order 5 = 2", "order 6 = -9", "days 5 / left = 25",
            "row 3 / row 8 / row 12 / row 20 / row 0 / judge = -9",
            "row 3 / row 8 / row 12 / row 20 / row 1 / judge = 4",
            "row 3 / row 8 / row 12 / row 20 / row 0 / row 0 / judge = 5");
    }

    /** "behind how many DAYS one has SAID 6 first"; "FIRST: who does, of several the least" */
    private static void proposesAndFirst() {
        Script.due("tell sg9;sg9;c00;c00;w00;w11;", "proposes 0 = 6", "proposes 1 = 6", "proposes -1 = 0",
            "days 5 / proposes 1 = 1", "days 6 / proposes 1 = 0", "days 60 / proposes 1 = 0",
            "days 6 / proposes -1 = 0", "takesOff 0 / proposes -1 = 1",
            "takesOff 0 / days 1 / wears 0 0 / proposes -1 = 1", "takesOff 0 / days 1 / wears 0 0 / proposes 0 = 6",
            "takesOff 0 / takesOff 1 / proposes -1 = -9", "takesOff 0 / days 6 / takesOff 1 / proposes -1 = 1",
            "takesOff 0 / days 6 / takesOff 1 / proposes 1 = 0",
            "takesOff 1 / days 1 / wears 1 1 / takesOff 0 / proposes -1 = 1");
        // Five in FLUTED: the sixth is never said.
        Script.due("tell sf9;c00;w00;", "proposes 0 = -9", "proposes -1 = -9", "days 5 / wears 0 0 / proposes 0 = 1");
    }

    private static void outAndStill() {
        Script.due("tell sm9;c00;w00;", "out 0 = 15", "suitThen 0 14 = 0", "suitThen 0 15 = -9", "days 14 / out 0 = 1",
            "days 15 / out 0 = 0", "takesOff 0 / out 0 = 0", "still = 6", "days 5 / still = 1", "days 6 / still = 0",
            "takesOff 0 / still = 0", "fears 0 20 / still = 0");
        Script.due(THREE, "still = 6", "takesOff 0 / still = 5", "wears 2 2 / still = 6", "days 5 / still = 1",
            "days 6 / still = 0");
    }

    /** "(by CALLERS, the least SUIT, none last)" */
    private static void dress() {
        // Nobody CAN in any: the first six SUITS go by numbers.
        Script.due("tell sp0;sp0;c20;c20;c20;", "dress -1 = 0", "dress 0 = 0", "dress 1 = 1", "dress 2 = -9");
        Script.due("tell sp0;sp0;sp0;sp0;sp0;sp0;c20;c20;c20;c20;c20;", "dress -1 = 0", "dress 0 = 0", "dress 4 = 4");
        // All CAN in none, and have the least SUIT yet.
        Script.due("tell sp0;sp0;c04;c04;c04;", "dress -1 = 3", "dress 0 = 0", "dress 1 = 1", "dress 2 = -9");
        // In none with FEAR 4 he CAN, with 5 not.
        Script.due("tell c04;", "dress -1 = 1", "fears 0 5 / dress -1 = 0");
        // The SUIT COVERS 4: FEAR 8 CAN in it, 9 not; RUST 1 takes it from him.
        Script.due("tell sp0;c00;c08;", "dress -1 = 2", "dress 0 = -9", "dress 1 = 0", "fears 1 9 / dress -1 = 1",
            "fears 1 9 / dress 0 = 0", "rusts 0 1 / dress -1 = 1", "soothes 1 2 / dress -1 = 2",
            "soothes 1 3 / dress -1 = 1");
        // Who has SAID all CAN not, and has the least SUIT yet; who is in it now does not matter.
        Script.due("tell sg9;c00;c10;w00;d06;", "dress -1 = 1", "dress 0 = -9", "dress 1 = 0",
            "fears 1 20 / dress -1 = 0", "fears 1 20 / dress 0 = 0", "fears 1 20 / dress 1 = -9");
        // Those who are no more behind an IMAGE gone back to CAN not, though they have been dressed.
        Script.due("tell c05; / image / tell c00;", "dress -1 = 1", "dress -1 / on / dress -1 = 0");
        Script.due("tell sp0;c09; / image / tell sp0;c00;c00;c00;c08;", "dress -1 = 4", "dress 4 = 1",
            "dress -1 / on / dress -1 = 0", "dress 4 / on / dress 0 = 0", "dress -1 / on / fears 0 8 / dress -1 = 1");
    }

    private static void suitBest() {
        Script.due("tell sp0;sg9;sg9;c00;c00;w02;w11;", "suitBest 0 6 0 = 0", "suitBest 0 6 1 = 6",
            "suitBest 0 0 0 = -9", "suitBest 0 0 1 = -9", "suitBest 0 1 0 = 0", "suitBest 0 1 1 = 1",
            "fears 0 8 / suitBest 0 1 0 = 0", "fears 0 9 / suitBest 0 1 0 = 1", "fears 0 10 / suitBest 0 1 0 = 1",
            "fears 0 11 / suitBest 0 1 0 = -9", "fears 0 8 / suitBest 0 6 0 = 1", "fears 0 8 / suitBest 0 2 0 = 0",
            "fears 0 8 / suitBest 0 3 0 = 1");
        // "more than in none": what is SAID already is no more.
        Script.due("tell sg9;c00;w00;d03;", "fears 0 20 / suitBest 0 30 0 = -9", "fears 0 20 / suitBest 0 30 1 = -9",
            "suitBest 0 1 1 = 4", "days 3 / suitBest 0 30 0 = -9", "days 3 / suitBest 0 30 1 = -9");
    }

    private static void change() {
        // One in a SUIT that does not help him: each of the others would say six in it.
        Script.due("tell sg9;c20;c00;c00;w00;", "change 0 = -9", "change 1 = 1", "change 20 = 1",
            "fears 1 20 / change 20 = 2", "fears 1 20 / fears 2 20 / change 20 = -9", "fears 0 0 / change 20 = -9",
            "wears 1 0 / change 20 = -9", "wears 2 0 / change 20 = -9", "takesOff 0 / change 20 = -9");
        Script.due("tell sg9;c00;c00;c20;c20;c20;w20;", "change 20 = 2", "fears 0 20 / change 20 = 12",
            "fears 0 20 / fears 1 20 / change 20 = -9", "fears 0 20 / fears 1 20 / fears 3 0 / change 20 = 23",
            "wears 4 0 / change 20 = 4", "wears 4 0 / fears 0 20 / fears 1 20 / fears 3 0 / change 20 = 34");
        Script.due("tell sg9;c00;w00;", "change 20 = -9");
    }

    private static void fewest() {
        Script.due("tell sg9;sg9;sf4;c00;c00;c10;w00;w11;w22;", "fewest 5 = 0", "fewest 6 = 3", "fewest 30 = 3",
            "takesOff 0 / fewest 6 = 2", "days 6 / fewest 0 = 0", "days 6 / fewest 30 = 0", "days 5 / fewest 0 = 0",
            "days 5 / fewest 1 = 3", "takesOff 0 / days 1 / wears 0 0 / fewest 5 = 2",
            "takesOff 0 / days 1 / wears 0 0 / fewest 6 = 3", "takesOff 0 / days 6 / wears 0 0 / fewest 6 = 1");
    }

    private static void spare() {
        Script.due("tell sg9;sg9;c00;c00;c00;w10;w21;", "spare 1 0 = 1", "spare 1 1 = 1", "spare 30 0 = 1",
            "spare 30 1 = 6", "fears 2 20 / spare 30 0 = 2", "fears 2 20 / spare 30 1 = 6",
            "takesOff 1 / spare 30 0 = 2", "takesOff 1 / spare 30 1 = 0", "takesOff 1 / takesOff 2 / spare 30 0 = -9",
            "takesOff 1 / takesOff 2 / spare 30 1 = -9", "days 6 / spare 1 1 = 12", "days 6 / spare 1 0 = 1");
    }

    /** "whose FEAR, 3 less now (0 at least)": the SUIT lets FEAR 8 speak. */
    private static void cheer() {
        Script.due("tell sp0;c11;w00;", "cheer 0 = -9", "cheer 1 = 0", "fears 0 12 / cheer 30 = -9",
            "fears 0 9 / cheer 1 = 0", "fears 0 8 / cheer 1 = -9", "takesOff 0 / cheer 30 = -9");
        // It COVERS nothing, SORE takes 5 or 4: FEAR 0 lacks 1, or CAN just.
        Script.due("tell sp0;r09;c02;w00;", "soothes 0 14 / cheer 1 = 0", "soothes 0 15 / cheer 1 = -9",
            "fears 0 0 / soothes 0 14 / cheer 1 = -9", "fears 0 3 / soothes 0 14 / cheer 1 = 0",
            "fears 0 4 / soothes 0 14 / cheer 1 = -9");
        Script.due("tell sp0;sp0;c11;c11;w00;w11;", "cheer 1 = 0", "fears 0 12 / cheer 1 = 1",
            "takesOff 0 / cheer 1 = 1");
    }

    private static void boldestAndSorest() {
        Script.due("tell c20;c19;c20;c19;", "boldest 0 = 1", "boldest 1 = 0", "soothes 2 1 / boldest 1 = 2",
            "soothes 3 1 / soothes 2 1 / boldest 1 = 2", "soothes 1 3 / boldest 0 = 3",
            "soothes 1 2 / boldest 0 = 1", "fears 1 20 / fears 3 20 / boldest 0 = 0");
        Script.due("tell sp0;c20;c20;c20;c20;c20;w40;", "boldest 0 = 4", "soothes 4 20 / boldest 1 = 4",
            "soothes 4 12 / boldest 0 = 0", "soothes 4 11 / boldest 0 = 4");
    }

    private static void leftAndOrder() {
        Script.due("tell sp0;sp0;sp0;sp0;sp0;sp0;c00;c00;", "left = 63", "wears 0 5 / left = 31",
            "wears 0 0 / left = 62", "wears 0 0 / wears 1 5 / left = 30", "wears 0 0 / wears 1 0 / left = 62",
            "order 0 = 0", "order 5 = 5", "order 6 = -9", "rusts 0 1 / order 5 = 0", "rusts 0 1 / order 0 = 1",
            "turn 5 0 1 / order 0 = 5", "turn 5 0 1 / order 1 = 0", "rusts 0 4 / rusts 1 9 / order 4 = 0",
            "rusts 0 4 / rusts 1 9 / order 5 = 1");
    }

    private static void heard() {
        for (int said = 0; said <= 6; said++) {
            String made = "tell sg9;sg9;c00;c20;w00;w11;" + (said == 0 ? "" : " / days " + said);
            for (int i = 0; i <= 5; i++) {
                Script.due(made, "heard " + i + " = " + (said > i ? 1 : 0));
            }
        }
    }

    /** "the least RUST (0 .. 9)"; "-9 (none: he CAN with all, nobody in it, has SAID all)" */
    private static void rusted() {
        // A PLATE of 5 COVERS 9 less RUST; with FEAR f he CAN if that is f less 4 or more.
        Script.due("tell sp5;c05;w00;", "rusted 0 = 9", "fears 0 4 / rusted 0 = -9", "fears 0 6 / rusted 0 = 8",
            "fears 0 13 / rusted 0 = 1", "fears 0 14 / rusted 0 = 0", "fears 0 20 / rusted 0 = 0",
            "turn 0 0 0 / rusted 0 = 4", "rusts 0 9 / rusted 0 = 9", "rusts 0 9 / fears 0 13 / rusted 0 = 1",
            "takesOff 0 / rusted 0 = -9", "takesOff 0 / fears 0 20 / rusted 0 = -9");
        Script.due("tell sg9;c00;w00;d06;", "rusted 0 = -9", "fears 0 20 / rusted 0 = -9");
    }

    /** What was thought of before has no part in what is asked then. */
    private static void thoughtsAreApart() {
        String[] thoughts = {"callerThen 0 60 0", "suitThen 1 60", "cost 60", "proposes 1", "proposes -1", "out 0",
            "still", "dress -1", "suitBest 2 30 0", "change 20", "fewest 30", "spare 30 0", "cheer 30", "two 0 1 30",
            "rain 1 7 3 4 0", "whatIs 1 0", "lots 20 5 0", "tell c21;", "tell sp1;c01;c21;", "tell d60;d00;"};
        for (String thought : thoughts) {
            Script.due(THREE, thought + " / callerThen 1 4 2 = 12", thought + " / suitThen 1 4 = 1",
                thought + " / cost 5 = 35", thought + " / proposes 0 = 6", thought + " / proposes -1 = 0",
                thought + " / out 1 = 5", thought + " / still = 6", thought + " / dress -1 = 3",
                thought + " / suitBest 2 1 0 = 1", thought + " / change 5 = -9", thought + " / fewest 6 = 1",
                thought + " / spare 5 1 = 5", thought + " / cheer 5 = -9", thought + " / two 0 1 30 = 11",
                thought + " / rain 0 6 2 6 0 = 1", thought + " / whatIs 0 0 = 63", thought + " / lots 1 0 1 = 38",
                thought + " / tell c05; = 1", thought + " / order 2 = 2", thought + " / order 3 = -9",
                thought + " / left = 4", thought + " / mean 0 = 142", thought + " / boldest 0 = 0",
                thought + " / row 0 / row 10 / row 20 / row 0 / judge = 3", thought + " / days 5 = 10");
        }
    }
}
