/** Promises 26 to 34 and 38: who, which, how likely, what kind, by lot. */
public final class LooksTest {
    private static final String THREE = "sg9;sf4;sp0;c00;c10;c20;w00;w11;";
    private static final long REFUSED = 4000000000000000000L;

    public static void main(String[] args) {
        boldest();
        left();
        order();
        heard();
        rusted();
        two();
        twoWithoutAPair();
        rain();
        rainRefused();
        mean();
        whatIs();
        lots();
        Check.end();
    }

    private static void boldest() {
        ArmourOfTheShy x = Check.told(THREE);
        Check.due("boldest(0) of several", x.boldest(0), 0);
        Check.due("boldest(1) of several", x.boldest(1), 0);
        x.fears(0, 1);
        Check.due("boldest(0)", x.boldest(0), 1);
        x.soothes(2, 5);
        Check.due("boldest(1)", x.boldest(1), 2);
        x.soothes(1, 5);
        Check.due("boldest(1) of two", x.boldest(1), 1);
        Check.due("boldest(2)", x.boldest(2), -2);
        Check.due("boldest(-1)", x.boldest(-1), -2);
        Check.due("below 0", Check.told("c20;").boldest(0), 0);
        Check.due("all below 0", Check.told("c20;c19;c19;").boldest(0), 1);
        Check.due("of nobody", new ArmourOfTheShy().boldest(0), -9);
        Check.due("of nobody", new ArmourOfTheShy().boldest(1), -9);
    }

    private static void left() {
        ArmourOfTheShy x = Check.told(THREE);
        Check.due("left()", x.left(), 4);
        x.takesOff(0);
        Check.due("left() behind takesOff", x.left(), 5);
        x.wears(2, 1);
        Check.due("left() behind wears", x.left(), 5);
        x.takesOff(2);
        Check.due("left(): all", x.left(), 7);
        Check.due("left() of no SUITS", new ArmourOfTheShy().left(), 0);
    }

    private static void order() {
        ArmourOfTheShy x = Check.told("sg9;sf4;sp0;sg4;");
        int[] due = {1, 0, 2, 3, -9};
        for (int i = 0; i < due.length; i++) {
            Check.due("order(" + i + ")", x.order(i), due[i]);
        }
        Check.due("order(-1)", x.order(-1), -4);
        Check.due("order of much", x.order(Integer.MAX_VALUE), -9);
        x.rusts(1, 9);
        Check.due("order behind RUST", x.order(3), 1);
        Check.due("order behind RUST", x.order(0), 0);
    }

    private static void heard() {
        ArmourOfTheShy x = Check.told(THREE);
        Check.due("heard(0) at first", x.heard(0), 0);
        x.days(5);
        Check.due("heard(0)", x.heard(0), 2);
        Check.due("heard(4)", x.heard(4), 2);
        Check.due("heard(5)", x.heard(5), 0);
        x.days(1);
        Check.due("heard(5) on the sixth", x.heard(5), 1);
        Check.due("heard(6)", x.heard(6), -1);
        Check.due("heard(-1)", x.heard(-1), -1);
    }

    private static void rusted() {
        ArmourOfTheShy x = Check.told(THREE);
        Check.due("he CAN with all", x.rusted(0), -9);
        Check.due("rusted(1)", x.rusted(1), 6);
        Check.due("nobody in it", x.rusted(2), -9);
        x.rusts(1, 9);
        Check.due("whatever RUST it has", x.rusted(1), 6);
        x.wears(2, 2);
        Check.due("with none already", x.rusted(2), 0);
        x.days(6);
        Check.due("has SAID all", x.rusted(0), -9);
        x.fears(0, 20);
        Check.due("has SAID all and fears", x.rusted(0), -9);
        Check.due("rusted(3)", x.rusted(3), -1);
        Check.due("rusted(-1)", x.rusted(-1), -1);
    }

    private static void two() {
        ArmourOfTheShy x = Check.told("sg9;sg9;c00;c00;c00;w00;w11;");
        Check.due("both stay", x.two(0, 1, 6), 11);
        Check.due("n 0", x.two(0, 1, 0), 0);
        Check.due("one twice", x.two(0, 0, -1), -1);
        Check.due("two(3, 0, -1)", x.two(3, 0, -1), -1);
        Check.due("two(0, 3, 31)", x.two(0, 3, 31), -1);
        Check.due("two(-1, 0, 0)", x.two(-1, 0, 0), -1);
        Check.due("two(0, 2, -1)", x.two(0, 2, -1), -4);
        Check.due("two(0, 2, 31)", x.two(0, 2, 31), -6);
        Check.due("two(0, 2, 30)", x.two(0, 2, 30), -3);
        Check.due("two(2, 0, 30)", x.two(2, 0, 30), -3);
        // The first cannot speak, and is sore by 12 in 6 DAYS; the other gains more than 2 from the third DAY on.
        x = Check.told("sp0;sg9;c20;c00;w00;w11;");
        Check.due("two(0, 1, 6)", x.two(0, 1, 6), 1);
        Check.due("two(1, 0, 6)", x.two(1, 0, 6), 10);
        Check.due("two(0, 1, 3)", x.two(0, 1, 3), 1);
        Check.due("two(0, 1, 2): neither gains", x.two(0, 1, 2), 0);
    }

    private static void twoWithoutAPair() {
        // By pairs 00, 01, 10, 11 the first has 1, 1, 0, 2, the other 1, 2, 3, 2: from each, one would rather go.
        ArmourOfTheShy x = Check.told("sm5;sm7;c19;c11;w11;d01;w00;f004;f104;");
        x.soothes(0, 12);
        x.soothes(1, 5);
        Check.due("no pair", x.two(0, 1, 2), -9);
        Check.due("no pair the other way", x.two(1, 0, 2), -9);
    }

    private static void rain() {
        // He CAN on each DAY only while there is no RUST.
        ArmourOfTheShy x = Check.told("sp0;c08;w00;");
        fraction(x, new int[] {0, 0, 2, 0}, 1, 1);
        fraction(x, new int[] {0, 0, 2, 1}, 0, 1);
        fraction(x, new int[] {0, 1, 3, 1}, 2, 3);
        fraction(x, new int[] {0, 1, 3, 0}, 1, 1);
        fraction(x, new int[] {0, 1, 3, 2}, 0, 1);
        fraction(x, new int[] {0, 2, 3, 2}, 4, 9);
        fraction(x, new int[] {0, 2, 3, 1}, 2, 3);
        fraction(x, new int[] {0, 2, 4, 1}, 3, 4);
        fraction(x, new int[] {0, 3, 3, 3}, 0, 1);
        Check.due("RUST stays", x.suit(0, 2), 0);
        x.takesOff(0);
        fraction(x, new int[] {0, 7, 20, 1}, 0, 1);
        // Without SORE all six, if the first six DAYS are dry.
        x = Check.told("sg0;c06;w00;");
        fraction(x, new int[] {0, 6, 20, 6}, 47045881, 64000000);
        fraction(x, new int[] {0, 7, 20, 6}, 47045881, 64000000);
        // RUST is 9 at most: it COVERS 4, rain or not.
        x = Check.told("sp9;r09;c08;w00;");
        fraction(x, new int[] {0, 1, 3, 1}, 1, 1);
        // It is ahead of the DAY that it rains: BLACK with RUST 3 chafes by 4.
        x = Check.told("sb9;r02;c00;w00;");
        x.soothes(0, 11);
        fraction(x, new int[] {0, 2, 5, 2}, 4, 5);
    }

    private static void fraction(ArmourOfTheShy x, int[] of, long above, long below) {
        String call = "rain(" + of[0] + ", " + of[1] + ", " + of[2] + ", " + of[3] + ", ";
        Check.due(call + "0)", x.rain(of[0], of[1], of[2], of[3], 0), above);
        Check.due(call + "1)", x.rain(of[0], of[1], of[2], of[3], 1), below);
    }

    private static void rainRefused() {
        ArmourOfTheShy x = Check.told("sp0;c08;w00;");
        int[][] due = {
            {1, -1, 1, -1, 2, 1}, {-1, 8, 21, 7, 0, 1}, {0, -1, 21, 7, 2, 4}, {0, 8, 1, 7, 2, 4}, {0, 8, 21, -1, 2, 4},
            {0, 8, 2, 0, 2, 6}, {0, 0, 21, 0, 2, 6}, {0, 0, 2, 7, -1, 6}, {0, 7, 20, 6, 2, 2}, {0, 7, 20, 6, -1, 2}};
        for (int[] d : due) {
            Check.due("rain refused", x.rain(d[0], d[1], d[2], d[3], d[4]), REFUSED + d[5]);
        }
        Check.due("NOBODY", x.count(11), 2);
        Check.due("OTHER", x.count(12), 2);
        Check.due("BELOW", x.count(14), 3);
        Check.due("ROOM", x.count(16), 3);
    }

    private static void mean() {
        ArmourOfTheShy x = Check.told(THREE);
        Check.due("mean(0)", x.mean(0), 142);
        Check.due("mean(1)", x.mean(1), 3);
        x.takesOff(1);
        Check.due("mean(0) in lowest terms", x.mean(0), 42);
        Check.due("mean(1) in lowest terms", x.mean(1), 1);
        Check.due("mean(2)", x.mean(2), REFUSED + 2);
        Check.due("mean(-1)", x.mean(-1), REFUSED + 2);
        x = Check.told("c20;c19;c18;c17;");
        Check.due("mean(0) of four", x.mean(0), 63);
        Check.due("mean(1) of four", x.mean(1), 2);
        x = new ArmourOfTheShy();
        Check.due("mean(0) of nobody", x.mean(0), 0);
        Check.due("mean(1) of nobody", x.mean(1), 1);
        Check.due("mean(2) of nobody", x.mean(2), REFUSED + 2);
    }

    private static void whatIs() {
        // A PLATE of 0 just lets him speak; MAIL, GAUNTLET and OLD of 0 would not, FLUTED and BLACK would.
        ArmourOfTheShy x = Check.told("sp0;sp0;c08;w00;");
        Check.due("all KINDS without a ROW", x.whatIs(0, 0), 63);
        Check.due("all FIGURES without a ROW", x.whatIs(0, 1), 1023);
        Check.due("nobody in it", x.whatIs(1, 0), 0);
        Check.due("nobody in it", x.whatIs(1, 1), 0);
        Check.row(x, 0, 1);
        Check.due("KINDS of 0, 1", x.whatIs(0, 0), 25);
        Check.due("FIGURES of 0, 1", x.whatIs(0, 1), 1023);
        Check.row(x, 0, 0);
        Check.due("KINDS of 0, 0", x.whatIs(0, 0), 38);
        Check.due("FIGURES of 0, 0", x.whatIs(0, 1), 0);
        Check.due("the ROW stays", x.count(6), 2);
        // In FLUTED and BLACK he is too sore behind five.
        Check.row(x, 0, 1, 2, 2);
        Check.due("KINDS of two", x.whatIs(0, 0), 1);
        Check.row(x, 0, 1, 2, 3, 4, 5, 5);
        Check.due("KINDS of five", x.whatIs(0, 0), 24);
        Check.row(x, 1);
        Check.due("KINDS of 1", x.whatIs(0, 0), 0);
        x.turn(0, 1, 0);
        Check.row(x, 0, 1);
        Check.due("FIGURES of MAIL", x.whatIs(0, 1), 1020);
        Check.row(x, 0, 0);
        Check.due("FIGURES of MAIL, none SAID", x.whatIs(0, 1), 3);
        x.rusts(0, 1);
        Check.due("FIGURES by its RUST", x.whatIs(0, 1), 7);
        Check.due("KIND stays", x.suit(0, 0), 1);
        Check.due("whatIs(2, 2)", x.whatIs(2, 2), -1);
        Check.due("whatIs(-1, 0)", x.whatIs(-1, 0), -1);
        Check.due("whatIs(0, 2)", x.whatIs(0, 2), -2);
        Check.due("whatIs(1, -1)", x.whatIs(1, -1), -2);
    }

    private static void lots() {
        // By seed 0 the DRAWS are 5, 6, 6, 8, 4; he says six with FEAR up to 6, else nothing.
        ArmourOfTheShy x = Check.told("sg0;c20;w00;");
        int[] due = {6, 12, 18, 18, 24};
        for (int n = 1; n <= 5; n++) {
            Check.due("lots(" + n + ", 0, 0)", x.lots(n, 0, 0), due[n - 1]);
            Check.due("lots(" + n + ", 0, 1)", x.lots(n, 0, 1), 8 * n);
        }
        x.soothes(0, 14);
        x.fears(0, 0);
        x.days(3);
        Check.due("SORE and SAID 0 at first", x.lots(5, 0, 0), 24);
        Check.due("PAID more alone", x.lots(5, 0, 1), 40);
        Check.due("lots(0, 0, 2)", x.lots(0, 0, 2), -4);
        Check.due("lots(-1, 0, 0)", x.lots(-1, 0, 0), -4);
        Check.due("lots(21, 0, 2)", x.lots(21, 0, 2), -6);
        Check.due("lots(20, 0, 2)", x.lots(20, 0, 2), -2);
        Check.due("lots(20, 0, -1)", x.lots(20, 0, -1), -2);
        // Two CALLERS draw in turn: 5, 6 and 6, 8 and 4.
        x = Check.told("sg0;sg0;c20;c20;w00;w11;");
        Check.due("two in one season", x.lots(1, 0, 0), 12);
        Check.due("two in two seasons", x.lots(2, 0, 0), 18);
        // Who is too sore in one season is in his SUIT again in the next.
        x = Check.told("sb9;c00;w00;");
        Check.due("five a season", x.lots(5, 7, 0), 25);
        Check.due("five DAYS' cost a season", x.lots(5, 7, 1), 150);
    }
}
