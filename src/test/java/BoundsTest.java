/** The numbers of the document's Terms where they come to a bound, and where something is cut. */
public final class BoundsTest {
    public static void main(String[] args) {
        atFirst();
        oneAtMostInEach();
        coversAtLeastNothing();
        coversMost();
        chafes();
        costs();
        aThirdOfSoreIsCut();
        canOrNot();
        lacks();
        saidAll();
        fearInADay();
        soreInADay();
        fifteenOrMore();
        inNoSuit();
        rustOnTheFifth();
        rustNineAtMost();
        paidAtMost();
        dayPasses999InThought();
        Check.end();
    }

    /** "RUST (0 at first)", "SORE (0 at first), SAID (0 at first), none (at first)", "PAID", "DAY (0 at first)" */
    private static void atFirst() {
        Script.due("", "count 0 = 0", "count 1 = 0", "count 2 = 0", "count 3 = 0", "count 4 = 0", "count 5 = 0",
            "count 6 = 0", "count 7 = 0");
        Script.due("tell sp5;c13;", "suit 0 2 = 0", "suit 0 6 = -9", "caller 0 1 = 0", "caller 0 2 = 0",
            "caller 0 3 = -9", "count 2 = 0", "count 3 = 0", "count 4 = 0", "count 5 = 13");
        // What comes where something else was, before an IMAGE was gone back to, has nothing of that.
        String again = "image / tell sp5;c13;w00;r05;d03; / soothes 0 9 / on / tell sm4;c02; / ";
        Script.due("", again + "suit 0 2 = 0", again + "suit 0 6 = -9", again + "caller 0 1 = 0",
            again + "caller 0 2 = 0", again + "caller 0 3 = -9", again + "count 2 = 0", again + "count 3 = 0");
    }

    private static void oneAtMostInEach() {
        Script.due("tell sp0;sp1;c00;c00;w00;w11;", "wears 1 0 = 1", "wears 1 0 / caller 0 3 = -9",
            "wears 1 0 / suit 0 6 = 1", "wears 1 0 / suit 1 6 = -9", "wears 1 0 / left = 2", "wears 1 1 = 1",
            "wears 1 1 / caller 1 3 = 1", "wears 1 1 / left = 0");
    }

    /** "how much one COVERS (0 at least; so for what it is under, too)": a PLATE of 4, 3, 2, 1, 0 and less, by RUST. */
    private static void coversAtLeastNothing() {
        String[] kinds = {"sp0;", "sm0;", "sg0;", "sf0;", "sb0;", "so0;"};
        int[][] due = {
            {4, 3, 2, 1, 0, 0, 0, 0, 0, 0}, {2, 1, 0, 0, 0, 0, 0, 0, 0, 0}, {2, 1, 1, 0, 0, 0, 0, 0, 0, 0},
            {8, 6, 4, 2, 0, 0, 0, 0, 0, 0}, {13, 11, 9, 7, 5, 5, 5, 5, 5, 5}, {2, 1, 0, 0, 0, 0, 0, 0, 0, 0}};
        for (int kind = 0; kind < kinds.length; kind++) {
            for (int rust = 0; rust <= 9; rust++) {
                Script.due("tell " + kinds[kind], "rusts 0 " + rust + " / suit 0 3 = " + due[kind][rust]);
            }
        }
    }

    /** FIGURE 9, and 9 with RUST 9, which is a PLATE of 4. */
    private static void coversMost() {
        Script.due("tell sp9;sm9;sg9;sf9;sb9;so9;", "suit 0 3 = 13", "suit 1 3 = 11", "suit 2 3 = 6", "suit 3 3 = 26",
            "suit 4 3 = 31", "suit 5 3 = 11");
        Script.due("tell sp9;sm9;sg9;sf9;sb9;so9;r09;r19;r29;r39;r49;r59;", "suit 0 3 = 4", "suit 1 3 = 2",
            "suit 2 3 = 2", "suit 3 3 = 8", "suit 4 3 = 13", "suit 5 3 = 2");
    }

    /** "RUST by 3, cut, more" of BLACK; "1 more on odd DAYS" of OLD; no RUST and no DAY changes the others. */
    private static void chafes() {
        int[] black = {3, 3, 3, 4, 4, 4, 5, 5, 5, 6};
        int[] others = {2, 1, 0, 3};
        for (int rust = 0; rust <= 9; rust++) {
            Script.due("tell sb9;", "rusts 0 " + rust + " / suit 0 4 = " + black[rust]);
            for (int kind = 0; kind < others.length; kind++) {
                Script.due("tell sp9;", "turn 0 " + kind + " 9 / rusts 0 " + rust + " / suit 0 4 = " + others[kind]);
            }
        }
        Script.due("tell so9;sp9;c20;w00;", "suit 0 4 = 2", "days 1 / suit 0 4 = 1", "days 2 / suit 0 4 = 2",
            "days 1 / caller 0 1 = 2", "days 2 / caller 0 1 = 3", "days 3 / caller 0 1 = 5", "days 1 / suit 1 4 = 2");
        Script.due("days 1 / tell so9;c20;w00;", "days 1 / caller 0 1 = 1", "days 2 / caller 0 1 = 3");
        Script.due("tell sb9;c00;w00;r09;", "days 1 / caller 0 1 = 6", "days 2 / caller 0 1 = 12");
    }

    private static void costs() {
        int[] due = {3, 2, 1, 6, 6, 0};
        for (int kind = 0; kind < due.length; kind++) {
            String turned = "turn 0 " + kind + " 9 / ";
            Script.due("tell sp0;c20;w00;", turned + "suit 0 5 = " + due[kind],
                turned + "days 1 / count 3 = " + due[kind], turned + "rusts 0 9 / suit 0 5 = " + due[kind],
                turned + "takesOff 0 / days 1 / count 3 = 0");
        }
    }

    private static void aThirdOfSoreIsCut() {
        for (int sore = 0; sore <= 20; sore++) {
            Script.due("tell c00;", "soothes 0 " + sore + " / courage 0 = " + -(sore / 3));
        }
        Script.due("tell c20;", "soothes 0 20 / courage 0 = -26", "soothes 0 20 / mean 0 = 24", "courage 0 = -20");
        Script.due("tell sb9;c00;w00;", "courage 0 = 31");
    }

    /** "if COURAGE is what it WEIGHS less 6, or more": for each SAYING the most FEAR with which he CAN, and 1 more. */
    private static void canOrNot() {
        // A GAUNTLET of 9 COVERS 6: with FEAR f behind i SAYINGS COURAGE is 6 and i less f, and 2 i less 4 is needed.
        for (int i = 0; i <= 5; i++) {
            String said = "tell sg9;c00;w00;" + (i == 0 ? "" : " / days " + i);
            String most = "fears 0 " + (10 - i) + " / ";
            String more = "fears 0 " + (11 - i) + " / ";
            Script.due(said, "caller 0 2 = " + i, most + "caller 0 4 = 1", most + "caller 0 5 = 0",
                most + "courage 0 = " + (2 * i - 4), more + "caller 0 4 = 0", more + "caller 0 5 = 1",
                most + "days 1 = " + (i + 1), more + "days 1 = " + i, most + "callerThen 0 1 0 = " + (i + 1),
                more + "callerThen 0 1 0 = " + i, most + "days 1 / caller 0 0 = " + (9 - i),
                more + "days 1 / caller 0 0 = " + (12 - i));
        }
    }

    /** "(0 he CAN, or has SAID all)" */
    private static void lacks() {
        Script.due("tell c00;", "caller 0 5 = 0", "fears 0 4 / caller 0 5 = 0", "fears 0 5 / caller 0 5 = 1",
            "fears 0 20 / caller 0 5 = 16", "fears 0 20 / soothes 0 20 / caller 0 5 = 22", "fears 0 4 / caller 0 4 = 1",
            "fears 0 5 / caller 0 4 = 0");
        Script.due("tell sg9;c00;w00;d05;", "fears 0 20 / soothes 0 20 / caller 0 5 = 21",
            "fears 0 20 / takesOff 0 / caller 0 5 = 21", "days 1 / fears 0 20 / soothes 0 20 / caller 0 5 = 0");
    }

    /** SAID is 6 at most: nothing is said any more, FEAR is 1 more, he is in his SUIT on and pays on. */
    private static void saidAll() {
        Script.due("tell sg9;c00;w00;d05;", "caller 0 2 = 5", "days 1 = 6", "days 2 = 6", "days 60 = 6",
            "days 1 / caller 0 4 = 0", "days 1 / caller 0 5 = 0", "days 1 / caller 0 0 = 0", "days 2 / caller 0 0 = 1",
            "days 1 / courage 0 = 12", "days 60 / caller 0 3 = 0", "days 60 / count 3 = 65", "days 1 / heard 5 = 1");
    }

    private static void fearInADay() {
        Script.due("tell sg9;c02;w00;", "days 1 / caller 0 0 = 1", "days 2 / caller 0 0 = 0", "days 3 / caller 0 0 = 0",
            "days 3 / caller 0 2 = 3");
        Script.due("tell sg9;c19;w00;", "days 1 / caller 0 0 = 20", "days 2 / caller 0 0 = 20",
            "callerThen 0 60 1 = 20", "days 2 / caller 0 2 = 0");
    }

    private static void soreInADay() {
        // BLACK with RUST 9 chafes by 6.
        Script.due("tell sb9;c00;w00;r09;", "soothes 0 13 / days 1 / caller 0 1 = 19",
            "soothes 0 14 / days 1 / caller 0 1 = 20", "soothes 0 15 / days 1 / caller 0 1 = 20",
            "soothes 0 20 / days 1 / caller 0 1 = 20", "soothes 0 20 / callerThen 0 1 2 = 20");
    }

    /** "SORE 15 or more: he is in none": behind what he says and pays on that DAY. */
    private static void fifteenOrMore() {
        Script.due("tell sp9;c00;w00;", "soothes 0 12 / days 1 / caller 0 1 = 14",
            "soothes 0 12 / days 1 / caller 0 3 = 0", "soothes 0 13 / days 1 / caller 0 1 = 15",
            "soothes 0 13 / days 1 / caller 0 3 = -9", "soothes 0 13 / days 1 / caller 0 2 = 1",
            "soothes 0 13 / days 1 / count 3 = 3", "soothes 0 13 / days 2 / count 3 = 3",
            "soothes 0 13 / days 2 / caller 0 2 = 1", "soothes 0 13 / days 2 / caller 0 1 = 14",
            "soothes 0 15 / caller 0 3 = 0", "soothes 0 13 / out 0 = 1", "soothes 0 12 / out 0 = 2",
            "soothes 0 20 / out 0 = 1", "takesOff 0 / soothes 0 20 / wears 0 0 = -9");
        // A GAUNTLET does not chafe, and yet he is in none who is as SORE as that.
        Script.due("tell sg9;c00;w00;", "soothes 0 14 / out 0 = -9", "soothes 0 15 / out 0 = 1",
            "soothes 0 15 / days 1 / caller 0 3 = -9", "soothes 0 15 / days 1 / caller 0 1 = 15");
    }

    private static void inNoSuit() {
        Script.due("tell c05;", "soothes 0 2 / days 1 / caller 0 1 = 1", "soothes 0 2 / days 2 / caller 0 1 = 0",
            "soothes 0 2 / days 3 / caller 0 1 = 0", "soothes 0 20 / days 20 / caller 0 1 = 0",
            "soothes 0 20 / days 19 / caller 0 1 = 1", "days 1 / caller 0 0 = 5", "days 60 / caller 0 2 = 0",
            "fears 0 0 / days 60 / caller 0 2 = 0", "days 60 / count 3 = 0");
    }

    /** "RUST of each SUIT in which nobody is, is 1 more, if 5 divides DAY" */
    private static void rustOnTheFifth() {
        Script.due("tell sp0;sg9;c00;w01;", "days 4 / suit 0 2 = 0", "days 5 / suit 0 2 = 1", "days 9 / suit 0 2 = 1",
            "days 10 / suit 0 2 = 2", "days 60 / suit 1 2 = 0", "days 4 / takesOff 0 / days 1 / suit 1 2 = 1",
            "days 5 / takesOff 0 / days 4 / suit 1 2 = 0", "days 4 / wears 0 0 / days 1 / suit 0 2 = 0",
            "days 4 / wears 0 0 / days 1 / suit 1 2 = 1");
        // Who is too sore on the fifth is in none when it rusts; on the sixth it is too late.
        Script.due("tell sp9;c00;w00;d04;", "soothes 0 13 / days 1 / suit 0 2 = 1",
            "soothes 0 12 / days 1 / suit 0 2 = 0", "soothes 0 11 / days 2 / suit 0 2 = 0",
            "soothes 0 11 / days 2 / caller 0 3 = -9");
    }

    private static void rustNineAtMost() {
        Script.due("tell sp0;r08;", "days 5 / suit 0 2 = 9", "days 10 / suit 0 2 = 9", "days 60 / suit 0 2 = 9");
        Script.due("tell sp0;", "days 44 / suit 0 2 = 8", "days 45 / suit 0 2 = 9", "days 50 / suit 0 2 = 9");
    }

    /** "(9999 at most)": five in MAIL, soothed every 14 DAYS, then in FLUTED, come there within 512 calls. */
    private static void paidAtMost() {
        StringBuilder made = new StringBuilder("tell sm9;sm9;sm9;sm9;sm9;c00;c00;c00;c00;c00;w00;w11;w22;w33;w44;");
        String soothed = " / soothes 0 0 / soothes 1 0 / soothes 2 0 / soothes 3 0 / soothes 4 0";
        for (int cycle = 0; cycle < 71; cycle++) {
            made.append(soothed).append(" / days 14");
        }
        made.append(soothed);
        String fluted = "turn 0 3 9 / turn 1 3 9 / turn 2 3 9 / turn 3 3 9 / turn 4 3 9 / ";
        Script.due(made.toString(), "count 3 = 9940", "cost 5 = 50", "days 5 / count 3 = 9990", "cost 6 = 59",
            "cost 60 = 59", fluted + "cost 1 = 30", fluted + "cost 2 = 59", fluted + "cost 60 = 59",
            fluted + "days 2 / count 3 = 9999", fluted + "days 2 / cost 1 = 0", fluted + "days 3 / count 3 = 9999",
            fluted + "tell d02; / count 3 = 9999", "lots 1 0 1 = 59", fluted + "lots 2 0 1 = 118");
    }

    /** "(In thought DAY may pass 999.)": all that is asked in mind on the last DAY is as it would be on any odd one. */
    private static void dayPasses999InThought() {
        String made = "days 60 / ".repeat(16) + "days 39 / tell sg9;so9;c00;c20;w00;w11;";
        Script.due(made, "count 2 = 999", "suit 1 4 = 1", "callerThen 1 1 2 = 1", "callerThen 1 2 2 = 3",
            "callerThen 0 60 0 = 6", "callerThen 0 60 1 = 20", "suitThen 1 9 = 1", "suitThen 1 10 = -9", "cost 60 = 60",
            "proposes 0 = 6", "proposes -1 = 0", "out 1 = 10", "out 0 = -9", "still = 6", "suitBest 0 30 1 = 6",
            "change 20 = -9", "fewest 30 = 1", "spare 30 0 = 1", "spare 30 1 = 6", "cheer 30 = -9", "two 0 1 30 = 10",
            "rain 0 7 20 6 0 = 1", "lots 1 0 1 = 8", "row 0 / row 1 / row 2 / whatIs 0 0 = 63",
            "callerThen 0 60 0 / count 2 = 999", "image = 999", "image / on = 999", "days 1 = -6");
    }
}
