/** Promises 14 to 25: what would be, n days on or dressed otherwise. */
public final class ThoughtTest {
    /** 0 says one a day in a GAUNTLET, 1 says five in FLUTED and is too sore then, 2 is in none. */
    private static final String THREE = "sg9;sf4;sp0;c00;c10;c20;w00;w11;";

    public static void main(String[] args) {
        callerThen();
        suitThen();
        cost();
        proposes();
        out();
        still();
        dress();
        suitBest();
        change();
        fewest();
        spare();
        cheer();
        nothingHasChanged();
        Check.end();
    }

    private static void callerThen() {
        ArmourOfTheShy x = Check.told(THREE);
        int[][] due = {
            {1, 0, 0, 0}, {1, 0, 1, 10}, {1, 5, 0, 5}, {1, 5, 1, 5}, {1, 5, 2, 15}, {1, 6, 2, 14}, {1, 60, 0, 5},
            {1, 60, 2, 0}, {0, 6, 0, 6}, {0, 6, 1, 0}, {0, 7, 1, 1}, {0, 25, 1, 19}, {0, 60, 1, 20}, {2, 60, 0, 0},
            {2, 60, 1, 20}};
        for (int[] d : due) {
            Check.due("callerThen(" + d[0] + ", " + d[1] + ", " + d[2] + ")", x.callerThen(d[0], d[1], d[2]), d[3]);
        }
        Check.due("callerThen(3, -1, 3)", x.callerThen(3, -1, 3), -1);
        Check.due("callerThen(-1, 61, 3)", x.callerThen(-1, 61, 3), -1);
        Check.due("callerThen(0, -1, 3)", x.callerThen(0, -1, 3), -4);
        Check.due("callerThen(0, 61, 3)", x.callerThen(0, 61, 3), -6);
        Check.due("callerThen(0, 60, 3)", x.callerThen(0, 60, 3), -2);
        Check.due("callerThen(0, 0, -1)", x.callerThen(0, 0, -1), -2);
    }

    private static void suitThen() {
        ArmourOfTheShy x = Check.told(THREE);
        Check.due("suitThen(1, 0)", x.suitThen(1, 0), 1);
        Check.due("suitThen(1, 4)", x.suitThen(1, 4), 1);
        Check.due("suitThen(1, 5)", x.suitThen(1, 5), -9);
        Check.due("suitThen(0, 60)", x.suitThen(0, 60), 0);
        Check.due("suitThen(2, 0)", x.suitThen(2, 0), -9);
        Check.due("suitThen(3, -1)", x.suitThen(3, -1), -1);
        Check.due("suitThen(-1, 61)", x.suitThen(-1, 61), -1);
        Check.due("suitThen(0, -1)", x.suitThen(0, -1), -4);
        Check.due("suitThen(0, 61)", x.suitThen(0, 61), -6);
    }

    private static void cost() {
        ArmourOfTheShy x = Check.told(THREE);
        Check.due("cost(0)", x.cost(0), 0);
        Check.due("cost(1)", x.cost(1), 7);
        Check.due("cost(5)", x.cost(5), 35);
        Check.due("cost(6)", x.cost(6), 36);
        Check.due("cost(60)", x.cost(60), 90);
        Check.due("cost(-1)", x.cost(-1), -4);
        Check.due("cost(61)", x.cost(61), -6);
        x.days(6);
        Check.due("cost behind what is PAID", x.cost(5), 5);
    }

    private static void proposes() {
        ArmourOfTheShy x = Check.told(THREE);
        Check.due("proposes(0)", x.proposes(0), 6);
        Check.due("proposes(1)", x.proposes(1), -9);
        Check.due("proposes(2)", x.proposes(2), -9);
        Check.due("FIRST", x.proposes(-1), 0);
        x.days(2);
        Check.due("two DAYS later", x.proposes(0), 4);
        x.takesOff(0);
        Check.due("FIRST of none", x.proposes(-1), -9);
        // One DAY ahead of the other is enough.
        x = Check.told("sg9;sg9;c00;c00;w11;d01;w00;");
        Check.due("FIRST by a DAY", x.proposes(-1), 1);
        x = Check.told("sg9;sg9;c00;c00;w11;d05;w00;");
        Check.due("FIRST by five", x.proposes(-1), 1);
        // 1 and 2 have SAID 2 already and come to 6 on the same DAY.
        x = Check.told("sg9;sg9;sg9;c00;c00;c00;w11;w22;d02;w00;");
        Check.due("FIRST of several", x.proposes(-1), 1);
        Check.due("proposes(0)", x.proposes(0), 6);
        Check.due("proposes(2)", x.proposes(2), 4);
        x.days(4);
        Check.due("has SAID 6 now", x.proposes(2), 0);
        Check.due("FIRST now", x.proposes(-1), 1);
        Check.due("proposes(3)", x.proposes(3), -1);
        Check.due("proposes(-2)", x.proposes(-2), -1);
        Check.due("-9 is no refusal", x.count(11), 2);
    }

    private static void out() {
        ArmourOfTheShy x = Check.told(THREE);
        Check.due("out(0)", x.out(0), -9);
        Check.due("out(1)", x.out(1), 5);
        Check.due("out(2)", x.out(2), 0);
        Check.due("out(3)", x.out(3), -1);
        Check.due("out(-1)", x.out(-1), -1);
        x.soothes(1, 20);
        Check.due("out(1), too sore already", x.out(1), 1);
    }

    private static void still() {
        ArmourOfTheShy x = Check.told(THREE);
        Check.due("still()", x.still(), 6);
        x.takesOff(0);
        Check.due("still() without the first", x.still(), 5);
        x.takesOff(1);
        Check.due("still() at once", x.still(), 0);
        Check.due("still() of nobody", new ArmourOfTheShy().still(), 0);
        // SORE 4 takes the third SAYING from him.
        x = Check.told("sp0;c08;w00;");
        Check.due("still() of a PLATE", x.still(), 2);
    }

    private static void dress() {
        // 0 CAN in none, 1 in the GAUNTLET or in FLUTED, 2 in FLUTED alone: the PLATE is the first's least one.
        ArmourOfTheShy x = Check.told(THREE);
        Check.due("dress(-1)", x.dress(-1), 3);
        Check.due("dress(0)", x.dress(0), 2);
        Check.due("dress(1)", x.dress(1), 0);
        Check.due("dress(2)", x.dress(2), 1);
        Check.due("dress(3)", x.dress(3), -1);
        Check.due("dress(-2)", x.dress(-2), -1);
        Check.due("nobody is dressed by it", x.caller(0, 3), 0);
        // One SUIT: the second needs it, so that the first has none.
        x = Check.told("sg9;c00;c10;");
        Check.due("dress(-1)", x.dress(-1), 2);
        Check.due("dress(0)", x.dress(0), -9);
        Check.due("dress(1)", x.dress(1), 0);
        // One SUIT that helps nobody is the first's.
        x = Check.told("sp0;c20;c20;");
        Check.due("dress(-1)", x.dress(-1), 0);
        Check.due("dress(0)", x.dress(0), 0);
        Check.due("dress(1)", x.dress(1), -9);
        // Who has SAID all does not count.
        x = Check.told("sg9;c00;w00;d06;");
        Check.due("dress(-1)", x.dress(-1), 0);
        Check.due("dress(0)", x.dress(0), 0);
        // All five, six SUITS, each needs what the others leave.
        x = Check.told("sp0;sp2;sp4;sp6;sp8;sp9;c17;c16;c14;c12;c10;");
        Check.due("dress(-1)", x.dress(-1), 5);
        int[] due = {5, 4, 3, 2, 1};
        for (int c = 0; c < 5; c++) {
            Check.due("dress(" + c + ")", x.dress(c), due[c]);
        }
        Check.due("dress(-1) of nobody", new ArmourOfTheShy().dress(-1), 0);
    }

    private static void suitBest() {
        ArmourOfTheShy x = Check.told(THREE);
        Check.due("suitBest(2, 0, 0)", x.suitBest(2, 0, 0), -9);
        Check.due("suitBest(2, 0, 1)", x.suitBest(2, 0, 1), -9);
        Check.due("suitBest(2, 1, 0)", x.suitBest(2, 1, 0), 1);
        Check.due("suitBest(2, 30, 1)", x.suitBest(2, 30, 1), 1);
        Check.due("suitBest(1, 5, 0) of several", x.suitBest(1, 5, 0), 0);
        Check.due("suitBest(1, 5, 1)", x.suitBest(1, 5, 1), 5);
        Check.due("suitBest(1, 30, 0)", x.suitBest(1, 30, 0), 0);
        Check.due("suitBest(1, 30, 1)", x.suitBest(1, 30, 1), 6);
        Check.due("who is in it stays", x.suit(0, 6), 0);
        x.days(3);
        Check.due("suitBest(0, 2, 1) with what is SAID", x.suitBest(0, 2, 1), 5);
        Check.due("suitBest(3, -1, 2)", x.suitBest(3, -1, 2), -1);
        Check.due("suitBest(-1, 31, 2)", x.suitBest(-1, 31, 2), -1);
        Check.due("suitBest(0, -1, 2)", x.suitBest(0, -1, 2), -4);
        Check.due("suitBest(0, 31, 2)", x.suitBest(0, 31, 2), -6);
        Check.due("suitBest(0, 30, 2)", x.suitBest(0, 30, 2), -2);
        Check.due("suitBest(0, 30, -1)", x.suitBest(0, 30, -1), -2);
        x.days(3);
        Check.due("suitBest of who has SAID all", x.suitBest(0, 30, 0), -9);
        Check.due("how much", x.suitBest(0, 30, 1), -9);
    }

    private static void change() {
        // BLACK 9 makes the fearless too sore and would let the fearful speak.
        ArmourOfTheShy x = Check.told("sg9;sb9;c00;c20;w01;w10;");
        Check.due("change(0)", x.change(0), -9);
        Check.due("change(1)", x.change(1), 1);
        Check.due("change(20)", x.change(20), 1);
        Check.due("change(-1)", x.change(-1), -4);
        Check.due("change(21)", x.change(21), -6);
        Check.due("nothing is changed by it", x.caller(0, 3), 1);
        x.wears(0, 0);
        x.wears(1, 1);
        Check.due("change back", x.change(20), -9);
        // The PLATE does not help its CALLER; either other would speak in it.
        x = Check.told("sp9;c20;c00;c00;w00;");
        Check.due("of several the first", x.change(5), 1);
        x = Check.told("sp9;c20;c20;c00;w10;");
        Check.due("the lesser and the other", x.change(5), 12);
        x = Check.told("sp9;c20;c20;c20;c20;c00;w30;");
        Check.due("the last two", x.change(5), 34);
        x = Check.told("c00;c00;");
        Check.due("both in none", x.change(20), -9);
    }

    private static void fewest() {
        ArmourOfTheShy x = Check.told(THREE);
        Check.due("fewest(0)", x.fewest(0), 0);
        Check.due("fewest(5)", x.fewest(5), 0);
        Check.due("fewest(6)", x.fewest(6), 1);
        Check.due("fewest(30)", x.fewest(30), 1);
        x.days(6);
        Check.due("has SAID 6 already", x.fewest(30), 0);
        Check.due("fewest(-1)", x.fewest(-1), -4);
        Check.due("fewest(31)", x.fewest(31), -6);
        x = Check.told("sg9;sf4;sg9;c20;c10;c00;c00;w12;w21;w30;");
        Check.due("fewest of two who do", x.fewest(6), 10);
    }

    private static void spare() {
        ArmourOfTheShy x = Check.told(THREE);
        Check.due("spare(30, 0)", x.spare(30, 0), 1);
        Check.due("spare(30, 1)", x.spare(30, 1), 6);
        Check.due("spare(5, 0) of several", x.spare(5, 0), 0);
        Check.due("spare(5, 1)", x.spare(5, 1), 5);
        Check.due("spare(1, 1)", x.spare(1, 1), 1);
        Check.due("spare(0, 2)", x.spare(0, 2), -4);
        Check.due("spare(31, 2)", x.spare(31, 2), -6);
        Check.due("spare(30, 2)", x.spare(30, 2), -2);
        Check.due("spare(1, -1)", x.spare(1, -1), -2);
        x.days(1);
        Check.due("what is SAID counts", x.spare(1, 1), 3);
        x.takesOff(0);
        Check.due("the only one", x.spare(1, 0), 1);
        Check.due("leaves what is SAID", x.spare(1, 1), 2);
        x.takesOff(1);
        Check.due("spare of none", x.spare(1, 0), -9);
        Check.due("how much of none", x.spare(1, 1), -9);
    }

    private static void cheer() {
        ArmourOfTheShy x = Check.told("sp0;sp0;c10;c10;w00;w11;");
        Check.due("cheer(0)", x.cheer(0), -9);
        Check.due("cheer(1) of several", x.cheer(1), 0);
        x.fears(0, 12);
        Check.due("cheer(1): 12 is too much", x.cheer(1), 1);
        x.fears(1, 8);
        Check.due("cheer(1): he CAN already", x.cheer(1), -9);
        Check.due("cheer(2): he says two already", x.cheer(2), -9);
        Check.due("cheer(3): the third", x.cheer(3), 1);
        Check.due("cheer(-1)", x.cheer(-1), -4);
        Check.due("cheer(31)", x.cheer(31), -6);
        Check.due("FEAR stays", x.caller(0, 0), 12);
        // COVERS 1, SORE takes 6: with FEAR 0 he lacks 1 still, and FEAR is no less than 0.
        x = Check.told("sm0;r01;c02;w00;");
        x.soothes(0, 18);
        Check.due("0 at least", x.cheer(1), -9);
        x.soothes(0, 17);
        Check.due("with FEAR 0", x.cheer(1), 0);
    }

    private static void nothingHasChanged() {
        ArmourOfTheShy x = Check.told(THREE);
        x.callerThen(0, 60, 0);
        x.suitThen(0, 60);
        x.cost(60);
        x.proposes(1);
        x.proposes(-1);
        x.out(0);
        x.still();
        x.dress(2);
        x.suitBest(2, 30, 0);
        x.change(20);
        x.fewest(30);
        x.spare(30, 0);
        x.cheer(30);
        x.two(0, 1, 30);
        x.rain(0, 7, 3, 4, 0);
        x.whatIs(0, 1);
        x.lots(20, 5, 0);
        int[] due = {3, 3, 0, 0, 0, 30, 0, 0, -9, -9, -9, 0, 0, 0, 0, 0, 0};
        for (int what = 0; what < due.length; what++) {
            Check.due("behind thoughts: count(" + what + ")", x.count(what), due[what]);
        }
        Check.due("behind thoughts: SORE", x.caller(1, 1), 0);
        Check.due("behind thoughts: RUST", x.suit(2, 2), 0);
        Check.due("behind thoughts: FIGURE", x.suit(0, 1), 9);
        Check.due("behind thoughts: SUIT", x.caller(1, 3), 1);
    }
}
