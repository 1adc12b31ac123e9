/** Promises 1 to 3, 35 to 37 and 39 to 41: what is told, kept and counted. */
public final class TellingTest {
    private static final String THREE = "sg9;sf4;sp0;c00;c10;c20;w00;w11;";

    public static void main(String[] args) {
        newObject();
        letters();
        cities();
        wrongShapes();
        wrongStatements();
        faultsChangeNothing();
        daysInACity();
        row();
        judged();
        image();
        counts();
        Check.end();
    }

    private static void newObject() {
        ArmourOfTheShy x = new ArmourOfTheShy();
        for (int what = 0; what <= 7; what++) {
            Check.due("new count(" + what + ")", x.count(what), 0);
        }
        for (int what = 11; what <= 16; what++) {
            Check.due("new count(" + what + ")", x.count(what), 0);
        }
        Check.due("new on()", x.on(), -3);
    }

    private static void letters() {
        ArmourOfTheShy x = new ArmourOfTheShy();
        Check.due("letter(0)", x.letter(0), 1);
        Check.due("letter(255)", x.letter(255), 2);
        Check.due("letter(256)", x.letter(256), -6);
        Check.due("letter(-1)", x.letter(-1), -4);
        Check.due("letters behind refusals", x.count(7), 2);
        for (int i = 3; i <= 96; i++) {
            Check.due("letter " + i, x.letter('0'), i);
        }
        Check.due("letter 97", x.letter('0'), -6);
        Check.due("letter(-1) without room", x.letter(-1), -4);
        Check.due("letter(256) without room", x.letter(256), -6);
        Check.due("BELOW", x.count(14), 2);
        Check.due("ROOM", x.count(16), 3);
        Check.due("city of 96", x.city(), -1000);
        Check.due("letters behind a city", x.count(7), 0);
    }

    private static void cities() {
        ArmourOfTheShy x = new ArmourOfTheShy();
        Check.due("city", Check.tell(x, THREE), 8);
        Check.due("letters are no more", x.count(7), 0);
        Check.due("SUITS", x.count(0), 3);
        Check.due("CALLERS", x.count(1), 3);
        Check.due("one statement more", Check.tell(x, "w01;"), 1);
        Check.due("he is in it", x.caller(0, 3), 1);
        Check.due("who was in it", x.caller(1, 3), -9);
        Check.due("what he was in", x.suit(0, 6), -9);
        Check.due("o, f, r", Check.tell(x, "o0;f120;r29;"), 3);
        Check.due("o", x.caller(0, 3), -9);
        Check.due("f", x.caller(1, 0), 20);
        Check.due("r", x.suit(2, 2), 9);
        Check.due("o of one in none", Check.tell(x, "o2;"), 1);
        Check.due("w twice", Check.tell(x, "w00;w00;"), 2);
        Check.due("w of his own", x.caller(0, 3), 0);
        Check.due("24 statements", Check.tell(x, "f000;r00;".repeat(10)), 20);
        Check.due("all of 96 letters", Check.tell(x, "r00;".repeat(24)), 24);
        Check.due("kinds", Check.tell(x, "so1;sb2;sm3;"), 3);
        Check.due("o", x.suit(3, 0), 5);
        Check.due("b", x.suit(4, 0), 4);
        Check.due("m", x.suit(5, 0), 1);
        Check.due("m's FIGURE", x.suit(5, 1), 3);
        Check.due("no refusals", x.count(11) + x.count(12) + x.count(13) + x.count(14) + x.count(16), 0);
    }

    private static void wrongShapes() {
        fault("", -1000);
        fault("x", -1000);
        fault(";", -1000);
        fault("S", -1000);
        fault("s", -1001);
        fault("sx", -1001);
        fault("s0", -1001);
        fault("sp", -1002);
        fault("spp;", -1002);
        fault("sp5", -1003);
        fault("sp55;", -1003);
        fault("sp5;;", -1004);
        fault("sp5; ", -1004);
        fault("sp5;c", -1005);
        fault("c0;", -1002);
        fault("c000;", -1003);
        fault("w0;", -1002);
        fault("w0p;", -1002);
        fault("o;", -1001);
        fault("o00;", -1002);
        fault("f00;", -1003);
        fault("f0000;", -1004);
        fault("r0;", -1002);
        fault("d1;", -1002);
        fault("d-1;", -1001);
        fault("c:0;", -1001);
        fault("c/0;", -1001);
        fault("r00;".repeat(23) + "r00:", -1095);
        fault("f000;".repeat(19) + "r", -1096);
        // What has the wrong shape is told ahead of what is not as it must be, wherever it stands.
        fault("c99;sp5", -1007);
        fault("w00;x", -1004);
    }

    private static void wrongStatements() {
        fault("c21;", -2000);
        fault("c20;c99;", -2004);
        fault("w00;", -2000);
        fault("sp1;c00;w01;", -2008);
        fault("sp1;c00;w10;", -2008);
        fault("o0;", -2000);
        fault("c00;o1;", -2004);
        fault("f000;", -2000);
        fault("c00;f021;", -2004);
        fault("r00;", -2000);
        fault("sp0;r10;", -2004);
        fault("d00;", -2000);
        fault("d61;", -2000);
        fault("sp0;d60;d61;", -2008);
        fault("c00;c00;c00;c00;c00;c00;", -2020);
        fault("sp0;sp0;sp0;sp0;sp0;sp0;sp0;", -2024);
        // The first of several.
        fault("c21;w00;", -2000);
        // A CALLER who comes behind is none so far.
        fault("o0;c00;", -2000);
    }

    private static void fault(String text, int want) {
        ArmourOfTheShy x = new ArmourOfTheShy();
        Check.due("city of " + text, Check.tell(x, text), want);
        Check.due("SUITS of " + text, x.count(0), 0);
        Check.due("CALLERS of " + text, x.count(1), 0);
        Check.due("DAY of " + text, x.count(2), 0);
        Check.due("letters of " + text, x.count(7), 0);
        for (int what = 11; what <= 16; what++) {
            Check.due("refusals of " + text, x.count(what), 0);
        }
    }

    private static void faultsChangeNothing() {
        ArmourOfTheShy x = Check.told(THREE);
        Check.due("fault at the end", Check.tell(x, "d09;f005;r25;o0;w12;w77;"), -2020);
        Check.due("DAY", x.count(2), 0);
        Check.due("PAID", x.count(3), 0);
        Check.due("FEAR", x.caller(0, 0), 0);
        Check.due("RUST", x.suit(2, 2), 0);
        Check.due("SUIT", x.caller(0, 3), 0);
        Check.due("other's SUIT", x.caller(1, 3), 1);
    }

    private static void daysInACity() {
        ArmourOfTheShy x = new ArmourOfTheShy();
        Check.due("days between", Check.tell(x, "sg9;c00;w00;d03;o0;d02;"), 6);
        Check.due("DAY", x.count(2), 5);
        Check.due("SAID", x.caller(0, 2), 3);
        Check.due("PAID", x.count(3), 3);
        Check.due("RUST on the fifth", x.suit(0, 2), 1);
        for (int i = 0; i < 15; i++) {
            x.days(60);
        }
        Check.due("DAY", x.count(2), 905);
        Check.due("above 999 by the second", Check.tell(x, "d60;d35;"), -2004);
        Check.due("up to 999", Check.tell(x, "d60;d34;"), 2);
        Check.due("DAY", x.count(2), 999);
        Check.due("none more", Check.tell(x, "d01;"), -2000);
    }

    private static void row() {
        ArmourOfTheShy x = new ArmourOfTheShy();
        Check.due("clear() of none", x.clear(), 0);
        Check.due("row(-1)", x.row(-1), -4);
        Check.due("row(100)", x.row(100), -6);
        for (int i = 1; i <= 16; i++) {
            Check.due("row " + i, x.row(i == 1 ? 99 : 0), i);
        }
        Check.due("row 17", x.row(0), -6);
        Check.due("row(-1) without room", x.row(-1), -4);
        Check.due("in the ROW", x.count(6), 16);
        Check.due("clear()", x.clear(), 16);
        Check.due("in the ROW", x.count(6), 0);
        Check.due("row(0)", x.row(0), 1);
    }

    private static void judged() {
        judged(-9);
        judged(-9, 0);
        judged(-9, 0, 10, 20);
        judged(0, 1);
        judged(0, 1, 10, 20);
        judged(1, 0, 9, 21);
        judged(2, 0, 10, 19);
        judged(3, 0, 10, 20, 0);
        judged(0, 99, 0, 0, 0, 0, 0, 0, 0, 0, 0, 0, 0, 0, 0, 0, 0);
    }

    private static void judged(int want, int... fears) {
        ArmourOfTheShy x = Check.told(THREE);
        Check.row(x, fears);
        Check.due("judge()", x.judge(), want);
        Check.due("the ROW behind it", x.count(6), 0);
        Check.due("judge() of none", x.judge(), -9);
    }

    private static void image() {
        ArmourOfTheShy x = Check.told(THREE);
        Check.due("on() of none", x.on(), -3);
        x.days(2);
        x.row(7);
        x.letter('c');
        Check.due("image()", x.image(), 2);
        x.days(60);
        x.row(8);
        x.letter('1');
        x.wears(2, 0);
        x.fears(0, 13);
        x.rusts(2, 9);
        x.soothes(1, 20);
        x.turn(0, 4, 1);
        x.letter('1');
        x.letter(';');
        Check.due("a CALLER more", x.city(), 1);
        Check.due("CALLERS", x.count(1), 4);
        x.letter('s');
        x.suit(9, 0);
        Check.due("on()", x.on(), 2);
        int[] due = {3, 3, 2, 14, 4, 28, 2, 1, -9, -9, -9, 1, 0, 1, 0, 0, 0};
        for (int what = 0; what < due.length; what++) {
            Check.due("as then: count(" + what + ")", x.count(what), due[what]);
        }
        Check.due("as then: KIND", x.suit(0, 0), 2);
        Check.due("as then: FIGURE", x.suit(0, 1), 9);
        Check.due("as then: RUST", x.suit(2, 2), 0);
        Check.due("as then: SORE", x.caller(1, 1), 6);
        Check.due("as then: SAID", x.caller(1, 2), 2);
        Check.due("as then: SUIT", x.caller(0, 3), 0);
        Check.due("as then: none", x.caller(2, 3), -9);
        x.days(1);
        Check.due("on() again", x.on(), 2);
        x.days(1);
        Check.due("image() again", x.image(), 3);
        x.days(1);
        Check.due("on() from the later", x.on(), 3);
        Check.due("letters stay behind on()", Check.tell(x, "p"), -1002);
        Check.due("a CALLER behind on()", Check.tell(x, "c03;"), 1);
        Check.due("his SORE is none of an earlier one", x.caller(3, 1), 0);
        Check.due("his SUIT is none of an earlier one", x.caller(3, 3), -9);
    }

    private static void counts() {
        ArmourOfTheShy x = Check.told(THREE);
        x.days(5);
        x.row(1);
        x.letter(1);
        x.letter(2);
        x.suit(3, 9);
        x.suit(0, 9);
        x.caller(0, -1);
        x.takesOff(2);
        x.takesOff(2);
        x.on();
        x.order(-1);
        x.days(0);
        x.days(-5);
        x.cost(-1);
        x.courage(5);
        x.rain(5, 0, 2, 0, 0);
        x.mean(2);
        x.mean(-1);
        x.row(100);
        // SAID 5 and 5; FEAR 0, 5, 20; the gauntlet costs 1, the fluted one 6 a day.
        int[] due = {3, 3, 5, 35, 10, 25, 1, 2, -9, -9, -9, 3, 4, 3, 4, 0, 1};
        for (int what = 0; what < due.length; what++) {
            Check.due("count(" + what + ")", x.count(what), due[what]);
        }
        int[] others = {-1, 17, 18, Integer.MIN_VALUE, Integer.MAX_VALUE};
        for (int what : others) {
            Check.due("count(" + what + ")", x.count(what), -9);
        }
        Check.due("-9 is no refusal", x.count(12), 4);
    }
}
