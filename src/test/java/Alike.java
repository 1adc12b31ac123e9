/** Asks two objects for all that can be asked, what is hidden at first too: the ROW, the letters, the IMAGE. */
final class Alike {
    private Alike() {
    }

    /** They are used up by it: the ROW and the letters are gone then. How many REFUSALS there were is left out. */
    static void all(String text, ArmourOfTheShy x, ArmourOfTheShy y) {
        things(text, x, y);
        for (int s = 0; s < y.count(0); s++) {
            same(text, x, y, "whatIs " + s + " 0");
            same(text, x, y, "whatIs " + s + " 1");
        }
        same(text, x, y, "judge");
        same(text, x, y, "letter 55");
        same(text, x, y, "letter 59");
        same(text, x, y, "city");
        things(text, x, y);
        same(text, x, y, "on");
        things(text, x, y);
    }

    static void things(String text, ArmourOfTheShy x, ArmourOfTheShy y) {
        for (int what = 0; what <= 7; what++) {
            same(text, x, y, "count " + what);
        }
        for (int s = 0; s < y.count(0); s++) {
            for (int what : new int[] {0, 1, 2, 6}) {
                same(text, x, y, "suit " + s + " " + what);
            }
        }
        for (int c = 0; c < y.count(1); c++) {
            for (int what = 0; what <= 3; what++) {
                same(text, x, y, "caller " + c + " " + what);
            }
        }
    }

    private static void same(String text, ArmourOfTheShy x, ArmourOfTheShy y, String call) {
        Check.due("left as it was by " + text + ": " + call, Script.ask(x, call), Script.ask(y, call));
    }
}
