/** Promises 4 to 13: suits, callers, what becomes of them, and days. */
public final class ThingsTest {
    public static void main(String[] args) {
        suits();
        callers();
        courage();
        wears();
        takesOff();
        fears();
        rusts();
        soothes();
        turn();
        days();
        bounds();
        paidIsBounded();
        Check.end();
    }

    private static void suits() {
        ArmourOfTheShy x = Check.told("sp5;sm8;sg9;sf4;sb2;so7;r03;r13;r23;r33;r49;r53;c00;w04;");
        int[][] due = {
            {0, 5, 3, 6, 2, 3, -9}, {1, 8, 3, 7, 1, 2, -9}, {2, 9, 3, 5, 0, 1, -9},
            {3, 4, 3, 10, 3, 6, -9}, {4, 2, 9, 5, 6, 6, 0}, {5, 7, 3, 6, 2, 0, -9}};
        for (int s = 0; s < 6; s++) {
            for (int what = 0; what < 7; what++) {
                Check.due("suit(" + s + ", " + what + ")", x.suit(s, what), due[s][what]);
            }
        }
        Check.due("suit(6, 0)", x.suit(6, 0), -1);
        Check.due("suit(-1, 0)", x.suit(-1, 0), -1);
        Check.due("suit(6, 7)", x.suit(6, 7), -1);
        Check.due("suit(0, 7)", x.suit(0, 7), -2);
        Check.due("suit(0, -1)", x.suit(0, -1), -2);
        x.rusts(0, 9);
        Check.due("PLATE covers 0 at least", x.suit(0, 3), 0);
        x.rusts(1, 9);
        Check.due("MAIL covers", x.suit(1, 3), 1);
        x.turn(1, 1, 6);
        Check.due("MAIL covers 0 at least", x.suit(1, 3), 0);
        x.turn(1, 1, 0);
        Check.due("MAIL under nothing", x.suit(1, 3), 0);
        x.turn(3, 3, 0);
        x.rusts(3, 9);
        Check.due("FLUTED covers 0 at least", x.suit(3, 3), 0);
        x.turn(2, 2, 2);
        Check.due("GAUNTLET is cut", x.suit(2, 3), 1);
        x.turn(4, 4, 9);
        x.rusts(4, 5);
        Check.due("BLACK covers", x.suit(4, 3), 21);
        Check.due("BLACK chafes by RUST 5", x.suit(4, 4), 4);
        x.rusts(4, 2);
        Check.due("BLACK chafes by RUST 2", x.suit(4, 4), 3);
        x.days(1);
        Check.due("OLD ahead of an even DAY", x.suit(5, 4), 1);
        Check.due("MAIL ahead of an even DAY", x.suit(1, 4), 1);
        x.days(1);
        Check.due("OLD ahead of an odd DAY", x.suit(5, 4), 2);
    }

    private static void callers() {
        ArmourOfTheShy x = Check.told("sg9;c00;c10;w00;");
        int[][] due = {{0, 0, 0, 0, 1, 0}, {10, 0, 0, -9, 0, 6}};
        for (int c = 0; c < 2; c++) {
            for (int what = 0; what < 6; what++) {
                Check.due("caller(" + c + ", " + what + ")", x.caller(c, what), due[c][what]);
            }
        }
        Check.due("caller(2, 0)", x.caller(2, 0), -1);
        Check.due("caller(-1, 0)", x.caller(-1, 0), -1);
        Check.due("caller(2, 6)", x.caller(2, 6), -1);
        Check.due("caller(0, 6)", x.caller(0, 6), -2);
        Check.due("caller(0, -1)", x.caller(0, -1), -2);
        x.fears(1, 4);
        Check.due("just CAN", x.caller(1, 4), 1);
        Check.due("lacks nothing", x.caller(1, 5), 0);
        x.fears(1, 5);
        Check.due("just CAN not", x.caller(1, 4), 0);
        Check.due("lacks 1", x.caller(1, 5), 1);
        x.days(5);
        Check.due("SAID 5", x.caller(0, 2), 5);
        Check.due("CAN the last", x.caller(0, 4), 1);
        x.fears(0, 6);
        Check.due("lacks for the last", x.caller(0, 5), 1);
        x.fears(0, 0);
        x.days(1);
        Check.due("SAID all", x.caller(0, 2), 6);
        Check.due("CAN no more", x.caller(0, 4), 0);
        x.fears(0, 20);
        Check.due("lacks nothing any more", x.caller(0, 5), 0);
    }

    private static void courage() {
        ArmourOfTheShy x = Check.told("sf4;c03;c20;w00;");
        Check.due("courage(0)", x.courage(0), 13);
        Check.due("courage(1)", x.courage(1), -20);
        x.soothes(1, 20);
        Check.due("of SORE 20", x.courage(1), -26);
        x.soothes(1, 2);
        Check.due("of SORE 2", x.courage(1), -20);
        x.days(2);
        Check.due("16 and SAID 2, less FEAR 1 and SORE 6", x.courage(0), 15);
        x.rusts(0, 3);
        Check.due("less RUST", x.courage(0), 9);
        Check.due("courage(2)", x.courage(2), 1000000001);
        Check.due("courage(-1)", x.courage(-1), 1000000001);
        Check.due("counted", x.count(11), 2);
    }

    private static void wears() {
        ArmourOfTheShy x = Check.told("sp1;sp2;c00;c00;");
        Check.due("wears(0, 1)", x.wears(0, 1), -9);
        Check.due("his SUIT", x.caller(0, 3), 1);
        Check.due("who is in it", x.suit(1, 6), 0);
        Check.due("wears(0, 0)", x.wears(0, 0), 1);
        Check.due("the one he was in", x.suit(1, 6), -9);
        Check.due("wears(1, 0)", x.wears(1, 0), -9);
        Check.due("who was in it", x.caller(0, 3), -9);
        Check.due("wears(1, 0) again", x.wears(1, 0), 0);
        Check.due("still in it", x.suit(0, 6), 1);
        Check.due("wears(2, 0)", x.wears(2, 0), -1);
        Check.due("wears(-1, 0)", x.wears(-1, 0), -1);
        Check.due("wears(0, 2)", x.wears(0, 2), -1);
        Check.due("wears(0, -9)", x.wears(0, -9), -1);
        Check.due("nothing changed", x.caller(0, 3), -9);
        Check.due("counted once each", x.count(11), 4);
    }

    private static void takesOff() {
        ArmourOfTheShy x = Check.told("sp1;sp2;c00;c00;w01;");
        Check.due("takesOff(0)", x.takesOff(0), 1);
        Check.due("in none", x.caller(0, 3), -9);
        Check.due("nobody in it", x.suit(1, 6), -9);
        Check.due("takesOff(0) again", x.takesOff(0), -3);
        Check.due("takesOff(2)", x.takesOff(2), -1);
        Check.due("takesOff(-1)", x.takesOff(-1), -1);
    }

    private static void fears() {
        ArmourOfTheShy x = Check.told("c07;");
        Check.due("fears(0, 20)", x.fears(0, 20), 7);
        Check.due("fears(0, 0)", x.fears(0, 0), 20);
        Check.due("fears(0, -1)", x.fears(0, -1), -4);
        Check.due("fears(0, 21)", x.fears(0, 21), -6);
        Check.due("fears(1, -1)", x.fears(1, -1), -1);
        Check.due("fears(-1, 21)", x.fears(-1, 21), -1);
        Check.due("FEAR", x.caller(0, 0), 0);
    }

    private static void rusts() {
        ArmourOfTheShy x = Check.told("sp7;r04;");
        Check.due("rusts(0, 9)", x.rusts(0, 9), 4);
        Check.due("rusts(0, 0)", x.rusts(0, 0), 9);
        Check.due("rusts(0, -1)", x.rusts(0, -1), -4);
        Check.due("rusts(0, 10)", x.rusts(0, 10), -6);
        Check.due("rusts(1, -1)", x.rusts(1, -1), -1);
        Check.due("rusts(-1, 10)", x.rusts(-1, 10), -1);
        Check.due("RUST", x.suit(0, 2), 0);
    }

    private static void soothes() {
        ArmourOfTheShy x = Check.told("sp9;c07;w00;");
        Check.due("soothes(0, 20)", x.soothes(0, 20), 0);
        Check.due("in it until a DAY has gone by", x.caller(0, 3), 0);
        Check.due("soothes(0, 3)", x.soothes(0, 3), 20);
        Check.due("soothes(0, -1)", x.soothes(0, -1), -4);
        Check.due("soothes(0, 21)", x.soothes(0, 21), -6);
        Check.due("soothes(1, -1)", x.soothes(1, -1), -1);
        Check.due("soothes(-1, 21)", x.soothes(-1, 21), -1);
        Check.due("SORE", x.caller(0, 1), 3);
    }

    private static void turn() {
        ArmourOfTheShy x = Check.told("so7;r03;c00;w00;");
        Check.due("turn(0, 3, 9)", x.turn(0, 3, 9), 57);
        Check.due("turn(0, 0, 0)", x.turn(0, 0, 0), 39);
        Check.due("KIND", x.suit(0, 0), 0);
        Check.due("FIGURE", x.suit(0, 1), 0);
        Check.due("RUST stays", x.suit(0, 2), 3);
        Check.due("who is in it stays", x.suit(0, 6), 0);
        Check.due("turn(1, 6, -1)", x.turn(1, 6, -1), -1);
        Check.due("turn(-1, 0, 0)", x.turn(-1, 0, 0), -1);
        Check.due("turn(0, 6, -1)", x.turn(0, 6, -1), -2);
        Check.due("turn(0, -1, 10)", x.turn(0, -1, 10), -2);
        Check.due("turn(0, 5, -1)", x.turn(0, 5, -1), -4);
        Check.due("turn(0, 5, 10)", x.turn(0, 5, 10), -6);
        Check.due("turn(0, 5, 9)", x.turn(0, 5, 9), 0);
    }

    private static void days() {
        ArmourOfTheShy x = Check.told("sg9;sf4;sp0;c00;c10;c20;w00;w11;");
        Check.due("days(4)", x.days(4), 8);
        Check.due("PAID", x.count(3), 28);
        Check.due("SORE in FLUTED", x.caller(1, 1), 12);
        Check.due("FEAR is less", x.caller(1, 0), 6);
        Check.due("RUST ahead of the fifth", x.suit(2, 2), 0);
        Check.due("the fifth", x.days(1), 10);
        Check.due("too sore", x.caller(1, 3), -9);
        Check.due("RUST of the unworn", x.suit(2, 2), 1);
        Check.due("RUST of what was taken off on that DAY", x.suit(1, 2), 1);
        Check.due("no RUST of the worn", x.suit(0, 2), 0);
        Check.due("the sixth", x.days(1), 11);
        Check.due("SORE in none", x.caller(1, 1), 14);
        Check.due("FEAR stays in none", x.caller(1, 0), 5);
        Check.due("FEAR ahead", x.caller(0, 0), 0);
        Check.due("the seventh", x.days(1), 11);
        Check.due("who has SAID all CAN not: FEAR is more", x.caller(0, 0), 1);
        Check.due("PAID", x.count(3), 37);
        Check.due("who is in none says nothing", x.caller(2, 2), 0);
        Check.due("days(0)", x.days(0), -4);
        Check.due("days(-1)", x.days(-1), -4);
        Check.due("days(61)", x.days(61), -6);
        Check.due("DAY", x.count(2), 7);
        for (int i = 0; i < 16; i++) {
            Check.due("days(60)", x.days(60), 11);
        }
        Check.due("above 999", x.days(33), -6);
        Check.due("to 999", x.days(32), 11);
        Check.due("days(1) at 999", x.days(1), -6);
        Check.due("days(0) at 999", x.days(0), -4);
        Check.due("DAY", x.count(2), 999);
        Check.due("in thought", x.callerThen(0, 60, 1), 20);
    }

    private static void bounds() {
        ArmourOfTheShy x = Check.told("sb0;so9;sp9;r09;r28;c20;c20;w00;");
        x.soothes(0, 14);
        x.days(1);
        Check.due("SORE 20 at most", x.caller(0, 1), 20);
        Check.due("FEAR 20 at most", x.caller(0, 0), 20);
        x.days(4);
        Check.due("RUST 9 at most", x.suit(0, 2), 9);
        Check.due("RUST 8 and 1", x.suit(2, 2), 9);
        x.days(60);
        Check.due("SORE 0 at least", x.caller(0, 1), 0);
        x.wears(1, 1);
        Check.due("DAY", x.count(2), 65);
        x.days(1);
        Check.due("OLD on DAY 66", x.caller(1, 1), 1);
        x.days(1);
        Check.due("OLD on DAY 67", x.caller(1, 1), 3);
        Check.due("OLD costs nothing", x.cost(5), 0);
    }

    /** PAID comes to 9999 within the 512 calls of an object: MAIL, soothed all 14 DAYS, then FLUTED. */
    private static void paidIsBounded() {
        ArmourOfTheShy x = Check.told("sm9;sm9;sm9;sm9;sm9;c00;c00;c00;c00;c00;w00;w11;w22;w33;w44;");
        for (int cycle = 0; cycle < 71; cycle++) {
            for (int c = 0; c < 5; c++) {
                x.soothes(c, 0);
            }
            x.days(14);
        }
        Check.due("PAID", x.count(3), 9940);
        for (int c = 0; c < 5; c++) {
            x.soothes(c, 0);
            x.turn(c, 3, 9);
        }
        Check.due("cost(1)", x.cost(1), 30);
        Check.due("cost(2)", x.cost(2), 59);
        Check.due("cost(9)", x.cost(9), 59);
        x.days(4);
        Check.due("PAID at most", x.count(3), 9999);
        Check.due("cost then", x.cost(1), 0);
    }
}
