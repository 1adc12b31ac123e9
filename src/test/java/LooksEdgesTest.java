/** TWO, RAIN, MEAN, WHAT IT IS, JUDGED, LOTS and THE IMAGE, where something is cut, alike, not there or at a bound. */
public final class LooksEdgesTest {
    private static final String THREE = "tell sg9;sf4;sp0;c00;c10;c20;w00;w11;";

    public static void main(String[] args) {
        sixSoreAreOneLess();
        asMuchOrMore();
        firstPair();
        rainIsOneRustMore();
        rainIsAheadOfTheDay();
        rainAndOddDays();
        rainInLowestTerms();
        mean();
        whatItIsByShortRows();
        whatItIsByLongRows();
        whatItIsOfWhoSays();
        judged();
        draws();
        seasons();
        image();
        imageLeavesOut();
        imageOfMoreAndLess();
        counts();
        Check.end();
    }

    /** "1 less for 6 SORE (cut)": the first says 3 in 3 DAYS in MAIL and is 3 SORE more; the other never speaks. */
    private static void sixSoreAreOneLess() {
        Script.due("tell sm9;sg9;c00;c20;w00;w11;", "two 0 1 3 = 10", "soothes 0 2 / two 0 1 3 = 10",
            "soothes 0 3 / two 0 1 3 = 0", "soothes 0 2 / two 1 0 3 = 1", "soothes 0 3 / two 1 0 3 = 0",
            "soothes 0 8 / two 0 1 3 = 0", "soothes 0 0 / two 0 1 2 = 0");
    }

    /** "2 more, if the other has SAID as much or more" */
    private static void asMuchOrMore() {
        // Both say n: alone 3 is more than 2 of who says nothing, and together each has 2 more.
        Script.due("tell sg9;sg9;c00;c00;w00;w11;", "two 0 1 0 = 0", "two 0 1 1 = 0", "two 0 1 2 = 0", "two 0 1 3 = 11",
            "two 1 0 3 = 11", "two 0 1 30 = 11");
        // The first is one SAYING ahead. In none he has 1, and 2 more if the other comes up to it: as much as he has by
        // 3 in two DAYS; in three DAYS he would say 4.
        Script.due("tell sg9;sg9;c00;c00;w00;d01;w11;", "two 0 1 0 = 0", "two 0 1 1 = 1", "two 0 1 2 = 1",
            "two 0 1 3 = 11", "two 1 0 2 = 10", "two 0 1 30 = 11");
    }

    /** 00, 01, 10, 11, and -9 where from each of them one would rather go. */
    private static void firstPair() {
        Script.due("tell sg9;sg9;c20;c20;w00;w11;", "two 0 1 0 = 0", "two 0 1 30 = 0");
        Script.due("tell sg9;sg9;c20;c00;w00;w11;", "two 0 1 30 = 1", "two 1 0 30 = 10");
        Script.due("tell sm5;sm7;c19;c11;w11;d01;w00;f004;f104; / soothes 0 12 / soothes 1 5", "two 0 1 2 = -9",
            "two 1 0 2 = -9", "two 0 1 0 = 0", "soothes 0 0 / two 0 1 2 = 10");
    }

    /** One RUST more leaves COURAGE as it must be, two do not. */
    private static void rainIsOneRustMore() {
        Script.due("tell sp1;c08;w00;", "rain 0 1 2 1 0 = 1", "rain 0 1 2 1 1 = 1", "rain 0 2 2 2 0 = 3",
            "rain 0 2 2 2 1 = 4");
        Script.due("tell sp0;c08;w00;", "rain 0 1 2 1 0 = 1", "rain 0 1 2 1 1 = 2");
        // "(9 at most)": a PLATE of 9 COVERS 4 then, which is enough for FEAR 8; a BLACK one chafes by 6 at most.
        Script.due("tell sp9;r08;c08;w00;", "rain 0 1 5 1 0 = 1", "rain 0 1 5 1 1 = 1",
            "rusts 0 9 / rain 0 1 5 1 1 = 1", "fears 0 9 / rain 0 1 5 1 0 = 4",
            "fears 0 9 / rusts 0 9 / rain 0 1 5 1 0 = 0");
        // RUST of his SUIT alone matters to him; without a SUIT none does.
        Script.due("tell sp0;sp9;c08;c00;w00;", "rain 1 7 2 1 0 = 0", "rain 1 7 2 0 0 = 1",
            "wears 1 1 / rain 1 7 2 6 1 = 1");
    }

    /** It rains ahead of the DAY: on the first already, and BLACK chafes more on the same DAY. */
    private static void rainIsAheadOfTheDay() {
        Script.due("tell sb9;r02;c00;w00;", "soothes 0 11 / rain 0 2 5 2 0 = 4", "soothes 0 11 / rain 0 2 5 2 1 = 5",
            "soothes 0 12 / rain 0 2 5 2 0 = 0", "soothes 0 10 / rain 0 2 5 2 1 = 1", "rain 0 0 5 0 0 = 1",
            "rain 0 0 5 1 0 = 0");
        Script.due("tell sp0;c08;w00;", "rain 0 2 3 1 0 = 2", "rain 0 2 3 1 1 = 3");
        // What is SAID already is as sure as can be.
        Script.due("tell sg9;c00;w00;d06;", "rain 0 0 2 6 0 = 1", "rain 0 7 20 6 1 = 1", "rain 0 0 2 6 1 = 1");
    }

    /** DAYS go on in it: OLD chafes by 2 on the first DAY, an odd one, and by 1 on the second. */
    private static void rainAndOddDays() {
        Script.due("tell so9;c00;w00;", "soothes 0 13 / rain 0 2 2 2 0 = 0", "soothes 0 12 / rain 0 2 2 2 0 = 1",
            "soothes 0 11 / rain 0 3 2 3 0 = 1", "soothes 0 12 / rain 0 3 2 3 0 = 0");
        Script.due("days 1 / tell so9;c00;w00;", "soothes 0 13 / rain 0 2 2 2 0 = 1",
            "soothes 0 14 / rain 0 2 2 2 0 = 0", "soothes 0 12 / rain 0 3 2 3 0 = 0",
            "soothes 0 11 / rain 0 3 2 3 0 = 1");
    }

    private static void rainInLowestTerms() {
        // Of 4 in 2 DAYS it is 2: one wet DAY is too many for the first SAYING, the second does not matter.
        Script.due("tell sp0;c08;w00;", "rain 0 2 2 1 0 = 1", "rain 0 2 2 1 1 = 2", "rain 0 2 4 2 0 = 9",
            "rain 0 2 4 2 1 = 16", "rain 0 7 10 1 0 = 9", "rain 0 7 10 1 1 = 10", "rain 0 7 10 3 0 = 0",
            "rain 0 7 10 3 1 = 1", "rain 0 7 10 0 0 = 1", "rain 0 7 10 0 1 = 1");
    }

    private static void mean() {
        Script.due("", "mean 0 = 0", "mean 1 = 1");
        Script.due("tell c00;", "mean 0 = 50", "mean 1 = 1", "fears 0 20 / soothes 0 20 / mean 0 = 24");
        Script.due("tell c00;c01;c00;c00;c00;", "mean 0 = 249", "mean 1 = 5", "fears 0 4 / mean 0 = 49",
            "fears 0 4 / mean 1 = 1");
        Script.due("tell c01;c02;c00;c03;", "mean 0 = 97", "mean 1 = 2");
        Script.due("tell sb9;c00;w00;", "mean 0 = 81");
    }

    private static void whatItIsByShortRows() {
        Script.due("tell sp0;sp0;c08;w00;", "whatIs 0 0 = 63", "whatIs 0 1 = 1023", "row 0 / whatIs 0 0 = 63",
            "row 0 / whatIs 0 1 = 1023", "row 1 / whatIs 0 0 = 0", "row 1 / whatIs 0 1 = 0", "row 99 / whatIs 0 0 = 0",
            "row 0 / row 1 / whatIs 0 0 = 25", "row 0 / row 0 / whatIs 0 0 = 38", "row 0 / row 0 / whatIs 0 1 = 0",
            "row 0 / row 2 / whatIs 0 0 = 0", "row 0 / whatIs 1 0 = 0", "row 0 / whatIs 1 1 = 0", "whatIs 1 0 = 0",
            "row 0 / row 1 / whatIs 0 0 / whatIs 0 0 / count 6 = 2", "row 0 / row 1 / whatIs 1 0 / clear = 2",
            "takesOff 0 / whatIs 0 0 = 0", "takesOff 0 / whatIs 0 1 = 0");
    }

    /** 16 numbers: SAID behind 0 to 15 DAYS; MAIL is as long as that, and the last number counts. */
    private static void whatItIsByLongRows() {
        String six = "row 0 / row 1 / row 2 / row 3 / row 4 / row 5" + " / row 6".repeat(9);
        Script.due("tell sm9;c00;w00;", six + " / row 6 / whatIs 0 0 = 39", six + " / row 5 / whatIs 0 0 = 0",
            six + " / row 6 / whatIs 0 1 = 1023", six + " / row 7 / whatIs 0 1 = 0",
            "rusts 0 1 / " + six + " / row 6 / whatIs 0 1 = 1022");
        // In FLUTED and BLACK he is too sore behind five.
        Script.due("tell sm9;c00;w00;", "row 0 / row 1 / row 2 / row 3 / row 4 / row 5 / row 5" + " / row 5".repeat(9)
            + " / whatIs 0 0 = 24");
        // On odd DAYS OLD chafes more: too sore behind the first DAY, where MAIL is not.
        Script.due("tell so9;c00;w00; / soothes 0 13 / row 0 / row 1", "row 1 / whatIs 0 0 = 57",
            "row 2 / whatIs 0 0 = 6", "days 1 / clear / row 1 / row 2 / row 2 / whatIs 0 0 = 0");
    }

    private static void whatItIsOfWhoSays() {
        // What he has SAID is told first; who has SAID all tells six for ever, by every KIND and FIGURE.
        Script.due("tell sg9;c00;w00;d02;", "row 2 / row 3 / whatIs 0 0 = 63", "row 0 / row 1 / whatIs 0 0 = 0",
            "row 3 / whatIs 0 0 = 0");
        Script.due("tell sg9;c00;w00;d06;", "row 6 / row 6 / row 6 / whatIs 0 0 = 63",
            "row 6 / row 6 / whatIs 0 1 = 1023", "row 6 / row 7 / whatIs 0 0 = 0");
        // MAIL of FIGURE and 4, less RUST, less 2: from 8 less 4 on it lets FEAR 8 speak.
        Script.due("tell sm0;c08;w00; / row 0 / row 1", "whatIs 0 1 = 1020", "rusts 0 7 / whatIs 0 1 = 512",
            "rusts 0 8 / whatIs 0 1 = 0", "rusts 0 1 / whatIs 0 1 = 1016");
    }

    /** "the first that is not so (nobody there, too); -9" */
    private static void judged() {
        Script.due("", "judge = -9", "row 0 / judge = 0", "row 99 / judge = 0", "row 0 / judge / judge = -9",
            "row 0 / judge / count 6 = 0");
        Script.due("tell c00;c20;c07;", "judge = -9", "row 0 / judge = -9", "row 0 / row 20 / judge = -9",
            "row 0 / row 20 / row 7 / judge = -9", "row 0 / row 20 / row 7 / row 0 / judge = 3", "row 1 / judge = 0",
            "row 1 / row 21 / judge = 0", "row 0 / row 21 / judge = 1", "row 0 / row 21 / row 8 / judge = 1",
            "row 0 / row 20 / row 8 / judge = 2", "row 0 / row 20 / row 8 / row 0 / judge = 2",
            "row 0 / row 20 / row 7" + " / row 0".repeat(13) + " / judge = 3", "row 0 / judge / count 6 = 0",
            "row 1 / judge / count 6 = 0", "row 1 / judge / clear = 0",
            "fears 2 8 / row 0 / row 20 / row 8 / judge = -9");
        Script.due("row 1 / row 2", "clear = 2", "clear / clear = 0", "clear / count 6 = 0", "clear / row 5 = 1",
            "clear / judge = -9");
    }

    /** By seed 6 the first DRAW is 20, by 22 it is 19, by 27 it is 0; z goes round, and its sign's bit is left out. */
    private static void draws() {
        Script.due("tell sb1;c00;w00;", "lots 1 6 0 = 0", "lots 1 22 0 = 1", "lots 1 27 0 = 5");
        Script.due("tell sf4;c00;w00;", "lots 1 6 0 = 1", "lots 1 27 0 = 5");
        // A GAUNTLET of 9 lets FEAR 10 speak, one of 7 only FEAR 9: z becomes -1 (10) and the greatest int (10).
        Script.due("tell sg9;c00;w00;", "lots 1 653637408 0 = 6", "lots 1 -1493846240 0 = 6",
            "turn 0 2 7 / lots 1 653637408 0 = 0", "turn 0 2 7 / lots 1 -1493846240 0 = 0");
        // z becomes 0 and the least int: the DRAW is 0.
        Script.due("tell sg0;r09;c00;w00;", "lots 1 634785765 0 = 5", "lots 1 -1512697883 0 = 5", "lots 1 0 0 = 0");
        // Who is in no SUIT draws, too: 5, 6, then 6 for the first again.
        Script.due("tell sg0;c00;c00;w10;", "lots 1 0 0 = 6", "lots 2 0 0 = 6", "wears 0 0 / lots 2 0 0 = 12");
    }

    /** 8 DAYS a season, each from the CITY as it is but for FEAR, SORE and SAID. */
    private static void seasons() {
        Script.due("tell sp9;c00;w00;", "lots 1 0 1 = 24", "lots 20 0 1 = 480", "soothes 0 20 / lots 1 0 1 = 24",
            "soothes 0 20 / lots 20 0 1 = 480", "takesOff 0 / lots 20 0 1 = 0", "takesOff 0 / lots 20 0 0 = 0",
            "days 2 / lots 1 0 1 = 24");
        Script.due("tell sg9;c00;w00;d06;", "lots 1 0 0 = 6", "lots 1 0 0 / caller 0 2 = 6",
            "lots 1 0 0 / caller 0 0 = 0", "lots 20 0 1 / count 3 = 6", "lots 20 0 1 / count 2 = 6");
        // With FEAR 13 he says nothing, whatever he has SAID.
        Script.due("tell sg0;c00;w00;d03;", "lots 1 max 0 = 0", "lots 1 0 0 = 6");
        Script.due("tell sm9;c00;w00;", "soothes 0 14 / lots 1 0 1 = 16",
            "soothes 0 14 / lots 1 0 1 / caller 0 1 = 14");
    }

    private static void image() {
        Script.due("", "on = -3", "image = 0", "image / on = 0", "on / image / on = 0", "days 7 / image = 7",
            "days 7 / image / days 5 / on = 7", "days 7 / image / days 5 / on / count 2 = 7",
            "days 7 / image / days 5 / on / days 2 / on = 7", "days 7 / image / days 5 / image / on = 12",
            "image / days 5 / on / days 3 / image / days 1 / on = 3");
        Script.due("on", "count 13 = 1", "image / on / count 13 = 1", "on / count 13 = 2");
    }

    /** "all that there is, but it, the ROW, letters, REFUSALS" */
    private static void imageLeavesOut() {
        Script.due("row 1 / say c0 / mean 2 / image", "row 2 / on / count 6 = 2", "clear / on / count 6 = 0",
            "say 0 / on / count 7 = 3", "say 0; / city / on / count 7 = 0", "say 0; / on / city = 1",
            "mean 2 / on / count 12 = 2", "suit 0 0 / on / count 11 = 1", "on / count 12 = 1", "on / on = 0");
        String changed = "image / days 3 / fears 0 9 / rusts 0 7 / soothes 0 8 / turn 0 5 1 / wears 2 1 / on / ";
        Script.due(THREE, changed + "caller 0 0 = 0", changed + "suit 0 2 = 0", changed + "caller 0 1 = 0",
            changed + "suit 0 0 = 2", changed + "suit 0 1 = 9", changed + "caller 0 2 = 0", changed + "caller 1 3 = 1",
            changed + "caller 2 3 = -9", changed + "count 2 = 0", changed + "count 3 = 0", changed + "count 4 = 0",
            changed + "count 5 = 30", changed + "days 6 = 11");
    }

    /** ON from an IMAGE with fewer SUITS and CALLERS, and with more. */
    private static void imageOfMoreAndLess() {
        Script.due("image / " + THREE + " / on", "count 0 = 0", "count 1 = 0", "suit 0 0 = -1", "caller 0 0 = -1",
            "left = 0", "tell c05; = 1", "tell c05; / caller 0 3 = -9", "tell w00; = -2000");
        Script.due("tell sp1; / image / tell c03;w00; / on", "count 1 = 0", "suit 0 6 = -9", "left = 1",
            "rusted 0 = -9");
    }

    private static void counts() {
        Script.due(THREE + " / days 2 / row 5 / say xy", "count 0 = 3", "count 1 = 3", "count 2 = 2", "count 3 = 14",
            "count 4 = 4", "count 5 = 28", "count 6 = 1", "count 7 = 2", "count 8 = -9", "count 9 = -9",
            "count 10 = -9", "count 11 = 0", "count 12 = 0", "count 13 = 0", "count 14 = 0", "count 15 = 0",
            "count 16 = 0", "count 17 = -9", "count -1 = -9", "count min = -9", "count max = -9",
            "count 17 / count 12 = 0");
    }
}
