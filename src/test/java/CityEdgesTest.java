/** A CITY told in letters: which sign can stand where, each FAULT with its place, and what comes of it. */
public final class CityEdgesTest {
    private static final String FIVE_AND_SIX = "sp5;sm8;sg9;sf4;sb2;so7;c03;c08;c12;c20;c00;";
    private static final String[] STATEMENTS = {"sp0;", "sm9;", "c00;", "w00;", "o0;", "f000;", "r00;", "d01;"};
    private static final String NO_DIGIT_LEFT = "/";
    private static final String NO_DIGIT_RIGHT = ":";

    public static void main(String[] args) {
        firstSigns();
        kindSigns();
        digitSigns();
        endSigns();
        somethingLacks();
        kindOneAheadOfKindTwo();
        numbersOutOfRange();
        noSuchSoFar();
        dayAbove();
        noRoomForMore();
        firstOfSeveral();
        allOfItOrNothing();
        lettersAreNoMore();
        whoWasInIt();
        Check.end();
    }

    private static void firstSigns() {
        for (int c = 0; c <= 255; c++) {
            boolean goesOn = "scwofrd".indexOf(c) >= 0;
            told("first sign " + c, "" + (char) c, goesOn ? -1001 : -1000);
            told("first sign behind one, " + c, "sp0;" + (char) c, goesOn ? -1005 : -1004);
        }
    }

    private static void kindSigns() {
        for (int c = 0; c <= 255; c++) {
            boolean goesOn = "pmgfbo".indexOf(c) >= 0;
            told("KIND's sign " + c, "s" + (char) c + "5;", goesOn ? 1 : -1001);
        }
    }

    /** Each place of a STATEMENT that has a digit, with each sign there is. */
    private static void digitSigns() {
        for (String statement : STATEMENTS) {
            int first = statement.charAt(0) == 's' ? 2 : 1;
            for (int at = first; at < statement.length() - 1; at++) {
                for (int c = 0; c <= 255; c++) {
                    if (c < '0' || c > '9') {
                        String text = statement.substring(0, at) + (char) c + statement.substring(at + 1);
                        told("sign " + c + " in " + statement, text, -1000 - at);
                    }
                }
                String left = statement.substring(0, at) + NO_DIGIT_LEFT + statement.substring(at + 1);
                String right = statement.substring(0, at) + NO_DIGIT_RIGHT + statement.substring(at + 1);
                told("left of the digits", "c00;" + left, -1004 - at);
                told("right of the digits", "c00;" + right, -1004 - at);
            }
        }
        for (char c = '0'; c <= '9'; c++) {
            told("FIGURE " + c, "sp" + c + ";", 1);
            told("RUST " + c, "sp0;r0" + c + ";", 2);
            told("FEAR 0" + c, "c0" + c + ";", 1);
        }
    }

    private static void endSigns() {
        for (String statement : STATEMENTS) {
            int end = statement.length() - 1;
            for (int c = 0; c <= 255; c++) {
                if (c != ';') {
                    told("end " + c + " of " + statement, statement.substring(0, end) + (char) c, -1000 - end);
                }
            }
            told("a second end of " + statement, statement + ";", -1001 - end);
        }
    }

    private static void somethingLacks() {
        told("no letters", "", -1000);
        for (String statement : STATEMENTS) {
            for (int at = 1; at < statement.length(); at++) {
                told("start of " + statement, statement.substring(0, at), -1000 - at);
                told("start behind one", "c00;" + statement.substring(0, at), -1004 - at);
            }
        }
        // 96 letters: there is no room for what lacks, and it is the end that is told.
        told("96 letters, the last a wrong sign", "sp0;" + "r00;".repeat(22) + "r00" + "r", -1095);
        told("96 letters, the end lacks", "c00;" + "f000;".repeat(18) + "o0", -1096);
    }

    private static void kindOneAheadOfKindTwo() {
        told("c21 and a wrong sign", "c21;x", -1004);
        told("c21 and something lacks", "c21;c0", -1006);
        told("no CALLER and a wrong sign", "w00;sp0;c00;c-1;", -1013);
        told("seven SUITS and a wrong sign", "sp0;".repeat(7) + ";", -1028);
        told("the first wrong sign", "c0x;c0y;", -1002);
    }

    private static void numbersOutOfRange() {
        told("c20", "c20;", 1);
        told("c21", "c21;", -2000);
        told("c99", "c00;c99;", -2004);
        told("f 20", "c00;f020;", 2);
        told("f 21", "c00;f021;", -2004);
        told("f 99", "c00;f099;", -2004);
        told("d01", "d01;", 1);
        told("d00", "d00;", -2000);
        told("d60", "d60;", 1);
        told("d61", "d61;", -2000);
        told("d99", "d99;", -2000);
        told("d00 behind", "d60;d00;", -2004);
        ArmourOfTheShy x = Script.made("tell sp0;sm9;c00;c20;f000;f120;r00;r19;d60;");
        Check.due("FIGURE 0", x.suit(0, 1), 0);
        Check.due("FIGURE 9", x.suit(1, 1), 9);
        Check.due("FEAR 0", x.caller(0, 0), 0);
        Check.due("FEAR 20", x.caller(1, 0), 20);
        Check.due("RUST 0 and 9 at most behind 60 DAYS", 10 * x.suit(0, 2) + x.suit(1, 2), 99);
        Check.due("DAY", x.count(2), 60);
    }

    private static void noSuchSoFar() {
        told("w, no CALLER", "sp0;w00;", -2004);
        told("w, no SUIT", "c00;w00;", -2004);
        told("w, a CALLER too far", "sp0;c00;w10;", -2008);
        told("w, a SUIT too far", "sp0;c00;w01;", -2008);
        told("w, CALLER 9", "sp0;c00;w90;", -2008);
        told("w, SUIT 9", "sp0;c00;w09;", -2008);
        told("o, no CALLER", "o0;", -2000);
        told("o, a CALLER too far", "c00;o1;", -2004);
        told("o 9", "c00;o9;", -2004);
        told("f, no CALLER", "f000;", -2000);
        told("f, a CALLER too far", "c00;f100;", -2004);
        told("f 9", "c00;f900;", -2004);
        told("r, no SUIT", "r00;", -2000);
        told("r, a SUIT too far", "sp0;r10;", -2004);
        told("r 9", "sp0;r90;", -2004);
        told("CALLER behind", "sp0;w00;c00;", -2004);
        told("SUIT behind", "c00;w00;sp0;", -2004);
        told("CALLER behind f", "f000;c00;", -2000);
        told("SUIT behind r", "r00;sp0;", -2000);
        told("the last of each", FIVE_AND_SIX + "w45;o4;f420;r59;", 15);
        told("one behind the last: w", FIVE_AND_SIX + "w55;", -2044);
        told("one behind the last: w's SUIT", FIVE_AND_SIX + "w46;", -2044);
        told("one behind the last: o", FIVE_AND_SIX + "o5;", -2044);
        told("one behind the last: f", FIVE_AND_SIX + "f500;", -2044);
        told("one behind the last: r", FIVE_AND_SIX + "r60;", -2044);
        // Those of earlier CITIES are there.
        Script.due("tell sp0;c00;", "tell w00; = 1", "tell o0; = 1", "tell f000; = 1", "tell r00; = 1",
            "tell w10; = -2000", "tell w01; = -2000");
    }

    private static void dayAbove() {
        String near = "days 60 / ".repeat(16) + "tell c00;";
        Script.due(near, "tell d39; = 1", "tell d40; = -2000", "tell d38;d01; = 2", "tell d38;d02; = -2004",
            "tell d39;d01; = -2004", "tell d39;c00;d01; = -2008", "tell d60; = -2000", "tell d39; / tell d01; = -2000",
            "tell d39; / tell c00; = 1", "tell d38;d02; / count 2 = 960", "tell d40; / tell d39; / count 2 = 999");
    }

    private static void noRoomForMore() {
        told("six SUITS", "sp0;".repeat(6), 6);
        told("seven SUITS", "sp0;".repeat(7), -2024);
        told("five CALLERS", "c00;".repeat(5), 5);
        told("six CALLERS", "c00;".repeat(6), -2020);
        Script.due("tell " + FIVE_AND_SIX, "count 0 = 6", "count 1 = 5", "tell sp0; = -2000", "tell c00; = -2000",
            "tell o0;c00; = -2003", "tell sp0; / count 0 = 6", "tell c00; / count 1 = 5");
        Script.due("tell sp0;sp1;sp2;sp3;sp4;c00;c01;c02;c03; / image / tell sp5;c04;", "tell sp6; = -2000",
            "tell c05; = -2000", "on / tell sp6; = 1", "on / tell c05; = 1", "on / tell sp6; / suit 5 1 = 6",
            "on / tell c05; / caller 4 0 = 5", "on / tell sp6;sp7; = -2004", "on / tell c05;c06; = -2004");
    }

    private static void firstOfSeveral() {
        told("two out of range", "c00;c21;c22;", -2004);
        told("no CALLER, then no room", "o0;" + "sp0;".repeat(7), -2000);
        told("both out of range and no room", "c00;".repeat(5) + "c21;", -2020);
        told("by STATEMENTS of different length", "o9;", -2000);
        told("behind o and f", "c00;o0;f000;r00;", -2012);
    }

    private static void allOfItOrNothing() {
        String made = "tell sg9;sf4;sp0;c00;c10;c20;w00;w11; / days 3 / row 3 / row 4";
        String[] faults = {"w21;x", "w21;c21;", "o0;d61;", "f005;f021;", "r05;r95;", "d05;d00;", "sm1;c01;w33;w99;",
            "c01;c02;c03;", "sm1;sm2;sm3;sm4;", "d60;f010;r09;o0;w20;w29;"};
        for (String text : faults) {
            ArmourOfTheShy x = Script.made(made);
            Check.due("a FAULT in " + text, Check.tell(x, text) <= -1000 ? 1 : 0, 1);
            Alike.all("the FAULT of " + text, x, Script.made(made));
        }
        Script.due(made, "tell sm1;c05;w33;f306;r39;d05;o3; = 7", "tell sm1;c05;w33;f306;r39;d05;o3; / count 0 = 4",
            "tell sm1;c05;w33;f306;r39; / caller 3 0 = 6", "tell sm1;c05;w33;f306;r39; / suit 3 2 = 9",
            "tell sm1;c05;w33; / suit 3 6 = 3", "tell sm1;c05;w33;o3; / suit 3 6 = -9", "tell d05; / count 2 = 8");
    }

    private static void lettersAreNoMore() {
        Script.due("", "tell c00; / count 7 = 0", "tell x / count 7 = 0", "tell c21; / count 7 = 0",
            "tell c0 / tell 0; = -1000", "tell c00; / city = -1000", "tell x / tell c00; = 1", "city / count 7 = 0");
    }

    /** "he is in it (who was in it is in none)" */
    private static void whoWasInIt() {
        Script.due("tell sp0;sp1;c00;c00;w00;w11;", "tell w01; / caller 0 3 = 1", "tell w01; / caller 1 3 = -9",
            "tell w01; / suit 0 6 = -9", "tell w01; / suit 1 6 = 0", "tell w00; / caller 0 3 = 0",
            "tell o0;o0; = 2", "tell o0; / caller 0 3 = -9", "tell o0; / caller 1 3 = 1");
    }

    private static void told(String why, String text, int want) {
        ArmourOfTheShy x = new ArmourOfTheShy();
        Check.due(why + ": " + text, Check.tell(x, text), want);
        if (want < 0) {
            int there = x.count(0) + x.count(1) + x.count(2) + x.count(3) + x.count(7);
            Check.due("nothing of it comes, " + why + ": " + text, there, 0);
        }
        for (int what = 11; what <= 16; what++) {
            Check.due("nothing is counted, " + why + ": " + text, x.count(what), 0);
        }
    }
}
