import java.math.BigInteger;
import java.util.ArrayList;
import java.util.Arrays;
import java.util.List;

/**
 * The document once more, as plainly as can be and by brute force: objects, copies, whole days for all callers,
 * refusals by exceptions. It is there to be compared with the class, and shares no code with it.
 */
final class Model {
    /** KINDS, each under the one that the document puts it under. */
    static class Plate {
        int covers(int figure, int rust) {
            return Math.max(0, figure + 4 - rust);
        }

        int sore(int rust, int day) {
            return 2;
        }

        int costs() {
            return 3;
        }
    }

    static class Mail extends Plate {
        @Override
        int covers(int figure, int rust) {
            return Math.max(0, super.covers(figure, rust) - 2);
        }

        @Override
        int sore(int rust, int day) {
            return super.sore(rust, day) - 1;
        }

        @Override
        int costs() {
            return super.costs() - 1;
        }
    }

    static class Gauntlet extends Plate {
        @Override
        int covers(int figure, int rust) {
            return super.covers(figure, rust) / 2;
        }

        @Override
        int sore(int rust, int day) {
            return 0;
        }

        @Override
        int costs() {
            return 1;
        }
    }

    static class Fluted extends Plate {
        @Override
        int covers(int figure, int rust) {
            return 2 * super.covers(figure, rust);
        }

        @Override
        int sore(int rust, int day) {
            return super.sore(rust, day) + 1;
        }

        @Override
        int costs() {
            return 2 * super.costs();
        }
    }

    static class Black extends Fluted {
        @Override
        int covers(int figure, int rust) {
            return super.covers(figure, rust) + 5;
        }

        @Override
        int sore(int rust, int day) {
            return super.sore(rust, day) + rust / 3;
        }
    }

    static class Old extends Mail {
        @Override
        int sore(int rust, int day) {
            return super.sore(rust, day) + (day % 2 == 1 ? 1 : 0);
        }

        @Override
        int costs() {
            return 0;
        }
    }

    static final Plate[] KINDS = {new Plate(), new Mail(), new Gauntlet(), new Fluted(), new Black(), new Old()};

    static final class Suit {
        int kind;
        int figure;
        int rust;

        Suit(int kind, int figure, int rust) {
            this.kind = kind;
            this.figure = figure;
            this.rust = rust;
        }

        int covers() {
            return KINDS[kind].covers(figure, rust);
        }
    }

    static final class Caller {
        int fear;
        int sore;
        int said;
        Suit in;

        int courage() {
            return (in == null ? 0 : in.covers()) + said - fear - sore / 3;
        }

        boolean can() {
            return said < 6 && courage() >= (2 * said + 2) - 6;
        }
    }

    static final class World {
        final List<Suit> suits = new ArrayList<>();
        final List<Caller> callers = new ArrayList<>();
        int paid;
        int day;

        World copy() {
            World w = new World();
            w.paid = paid;
            w.day = day;
            for (Suit s : suits) {
                w.suits.add(new Suit(s.kind, s.figure, s.rust));
            }
            for (Caller c : callers) {
                Caller d = new Caller();
                d.fear = c.fear;
                d.sore = c.sore;
                d.said = c.said;
                d.in = c.in == null ? null : w.suits.get(suits.indexOf(c.in));
                w.callers.add(d);
            }
            return w;
        }

        int wearer(int suit) {
            for (int c = 0; c < callers.size(); c++) {
                if (callers.get(c).in == suits.get(suit)) {
                    return c;
                }
            }
            return -9;
        }

        int suitOf(int caller) {
            Suit in = callers.get(caller).in;
            return in == null ? -9 : suits.indexOf(in);
        }

        void wear(int caller, int suit) {
            for (Caller c : callers) {
                if (c.in == suits.get(suit)) {
                    c.in = null;
                }
            }
            callers.get(caller).in = suits.get(suit);
        }

        World after(int n) {
            World w = copy();
            for (int i = 0; i < n; i++) {
                w.day();
            }
            return w;
        }

        void day() {
            day++;
            for (Caller c : callers) {
                if (c.in == null) {
                    c.sore = Math.max(0, c.sore - 1);
                    continue;
                }
                Plate kind = KINDS[c.in.kind];
                paid = Math.min(9999, paid + kind.costs());
                if (c.can()) {
                    c.said++;
                    c.fear = Math.max(0, c.fear - 1);
                } else {
                    c.fear = Math.min(20, c.fear + 1);
                }
                c.sore = Math.min(20, c.sore + kind.sore(c.in.rust, day));
                if (c.sore >= 15) {
                    c.in = null;
                }
            }
            for (int s = 0; s < suits.size(); s++) {
                if (day % 5 == 0 && wearer(s) == -9) {
                    suits.get(s).rust = Math.min(9, suits.get(s).rust + 1);
                }
            }
        }

        int said() {
            return callers.stream().mapToInt(c -> c.said).sum();
        }

        int fear() {
            return callers.stream().mapToInt(c -> c.fear).sum();
        }

        long saidAll() {
            return callers.stream().filter(c -> c.said == 6).count();
        }
    }

    static final class Refused extends RuntimeException {
        private static final long serialVersionUID = 1L;
        final int why;

        Refused(int why) {
            this.why = why;
        }
    }

    World w = new World();
    World image;
    String letters = "";
    final List<Integer> row = new ArrayList<>();
    final int[] refusals = new int[7];

    long call(String name, int... a) {
        try {
            return answer(name, a);
        } catch (Refused r) {
            refusals[-r.why]++;
            if (name.equals("courage")) {
                return 1000000000L - r.why;
            }
            return name.equals("rain") || name.equals("mean") ? 4000000000000000000L - r.why : r.why;
        }
    }

    private long answer(String name, int[] a) {
        switch (name) {
            case "letter": return letter(a[0]);
            case "city": return city();
            case "suit": return suit(a[0], a[1]);
            case "caller": return caller(a[0], a[1]);
            case "courage": return who(a[0]).courage();
            case "wears": return wears(a[0], a[1]);
            case "takesOff": return takesOff(a[0]);
            case "fears": return fears(a[0], a[1]);
            case "rusts": return rusts(a[0], a[1]);
            case "soothes": return soothes(a[0], a[1]);
            case "turn": return turn(a[0], a[1], a[2]);
            case "days": return days(a[0]);
            case "callerThen": return callerThen(a[0], a[1], a[2]);
            case "suitThen": return suitThen(a[0], a[1]);
            case "cost": return w.after(within(a[0], 0, 60)).paid - w.paid;
            case "proposes": return proposes(a[0]);
            case "out": return out(a[0]);
            case "still": return still();
            case "dress": return dress(a[0]);
            case "suitBest": return suitBest(a[0], a[1], a[2]);
            case "change": return change(within(a[0], 0, 20));
            case "fewest": return fewest(within(a[0], 0, 30));
            case "spare": return spare(within(a[0], 1, 30), what(a[1], 2));
            case "cheer": return cheer(within(a[0], 0, 30));
            case "boldest": return boldest(what(a[0], 2));
            case "left": return left();
            case "order": return order(a[0]);
            case "heard": return heard(a[0]);
            case "rusted": return rusted(a[0]);
            case "two": return two(a[0], a[1], a[2]);
            case "rain": return rain(a);
            case "mean": return mean(what(a[0], 2));
            case "whatIs": return whatIs(a[0], a[1]);
            case "row": return row(a[0]);
            case "judge": return judge();
            case "clear": return clear();
            case "lots": return lots(within(a[0], 1, 20), a[1], what(a[2], 2));
            case "image": image = w.copy(); return w.day;
            case "on": return on();
            case "count": return count(a[0]);
            default: throw new IllegalStateException(name);
        }
    }

    private Caller who(int caller) {
        if (caller < 0 || caller >= w.callers.size()) {
            throw new Refused(-1);
        }
        return w.callers.get(caller);
    }

    private Suit which(int suit) {
        if (suit < 0 || suit >= w.suits.size()) {
            throw new Refused(-1);
        }
        return w.suits.get(suit);
    }

    private static int within(int v, int least, int most) {
        if (v < least) {
            throw new Refused(-4);
        }
        if (v > most) {
            throw new Refused(-6);
        }
        return v;
    }

    private static int what(int what, int many) {
        if (what < 0 || what >= many) {
            throw new Refused(-2);
        }
        return what;
    }

    private long letter(int c) {
        within(c, 0, 255);
        if (letters.length() == 96) {
            throw new Refused(-6);
        }
        letters += (char) c;
        return letters.length();
    }

    private static final String STATEMENT = "(s[pmgfbo][0-9]|[cwrd][0-9][0-9]|o[0-9]|f[0-9][0-9][0-9]);";

    private long city() {
        String text = letters;
        letters = "";
        if (!text.matches("(?s)(" + STATEMENT + ")+")) {
            for (int i = 1; i <= text.length(); i++) {
                if (!canGoOn(text.substring(0, i))) {
                    return -1000 - (i - 1);
                }
            }
            return -1000 - text.length();
        }
        World before = w;
        w = w.copy();
        int at = 0;
        for (String statement : text.split(";")) {
            if (!comes(statement)) {
                w = before;
                return -2000 - at;
            }
            at += statement.length() + 1;
        }
        return text.split(";").length;
    }

    /** Whether what has come is the start of something that can be a CITY: tries each end of a STATEMENT. */
    private static boolean canGoOn(String start) {
        for (String end : new String[] {"", ";", "0;", "00;", "000;", "p0;", "s00;"}) {
            if ((start + end).matches("(?s)(" + STATEMENT + ")+")) {
                return true;
            }
        }
        return false;
    }

    private boolean comes(String s) {
        int one = s.charAt(1) - '0';
        int two = s.length() > 2 ? s.charAt(2) - '0' : 0;
        switch (s.charAt(0)) {
            case 's':
                w.suits.add(new Suit("pmgfbo".indexOf(s.charAt(1)), two, 0));
                return w.suits.size() <= 6;
            case 'c':
                Caller c = new Caller();
                c.fear = Integer.parseInt(s.substring(1));
                w.callers.add(c);
                return c.fear <= 20 && w.callers.size() <= 5;
            case 'w':
                if (one >= w.callers.size() || two >= w.suits.size()) {
                    return false;
                }
                w.wear(one, two);
                return true;
            case 'o':
                if (one >= w.callers.size()) {
                    return false;
                }
                w.callers.get(one).in = null;
                return true;
            case 'f':
                if (one >= w.callers.size()) {
                    return false;
                }
                w.callers.get(one).fear = Integer.parseInt(s.substring(2));
                return w.callers.get(one).fear <= 20;
            case 'r':
                if (one >= w.suits.size()) {
                    return false;
                }
                w.suits.get(one).rust = two;
                return true;
            default:
                int n = Integer.parseInt(s.substring(1));
                w = w.after(n);
                return n >= 1 && n <= 60 && w.day <= 999;
        }
    }

    private long suit(int suit, int what) {
        Suit s = which(suit);
        return new int[] {s.kind, s.figure, s.rust, s.covers(), KINDS[s.kind].sore(s.rust, w.day + 1),
            KINDS[s.kind].costs(), w.wearer(suit)}[what(what, 7)];
    }

    private long caller(int caller, int what) {
        Caller c = who(caller);
        int lacks = c.can() || c.said == 6 ? 0 : (2 * c.said + 2) - 6 - c.courage();
        return new int[] {c.fear, c.sore, c.said, w.suitOf(caller), c.can() ? 1 : 0, lacks}[what(what, 6)];
    }

    private long wears(int caller, int suit) {
        who(caller);
        which(suit);
        int had = w.suitOf(caller);
        w.wear(caller, suit);
        return had;
    }

    private long takesOff(int caller) {
        if (who(caller).in == null) {
            throw new Refused(-3);
        }
        int had = w.suitOf(caller);
        who(caller).in = null;
        return had;
    }

    private long fears(int caller, int v) {
        Caller c = who(caller);
        int had = c.fear;
        c.fear = within(v, 0, 20);
        return had;
    }

    private long rusts(int suit, int v) {
        Suit s = which(suit);
        int had = s.rust;
        s.rust = within(v, 0, 9);
        return had;
    }

    private long soothes(int caller, int v) {
        Caller c = who(caller);
        int had = c.sore;
        c.sore = within(v, 0, 20);
        return had;
    }

    private long turn(int suit, int kind, int figure) {
        Suit s = which(suit);
        int had = 10 * s.kind + s.figure;
        what(kind, 6);
        s.figure = within(figure, 0, 9);
        s.kind = kind;
        return had;
    }

    private long days(int n) {
        within(n, 1, 60);
        within(w.day + n, 0, 999);
        w = w.after(n);
        return w.said();
    }

    private long callerThen(int caller, int n, int what) {
        who(caller);
        Caller c = w.after(within(n, 0, 60)).callers.get(caller);
        return new int[] {c.said, c.fear, c.sore}[what(what, 3)];
    }

    private long suitThen(int suit, int n) {
        which(suit);
        return w.after(within(n, 0, 60)).wearer(suit);
    }

    private int saysAll(int caller) {
        for (int n = 0; n <= 60; n++) {
            if (w.after(n).callers.get(caller).said == 6) {
                return n;
            }
        }
        return -9;
    }

    private long proposes(int caller) {
        if (caller != -1) {
            who(caller);
            return saysAll(caller);
        }
        int best = -9;
        for (int c = 0; c < w.callers.size(); c++) {
            int n = saysAll(c);
            if (n != -9 && (best == -9 || n < saysAll(best))) {
                best = c;
            }
        }
        return best;
    }

    private long out(int caller) {
        who(caller);
        for (int n = 0; n <= 60; n++) {
            if (w.after(n).callers.get(caller).in == null) {
                return n;
            }
        }
        return -9;
    }

    private long still() {
        for (int n = 0; n <= 60; n++) {
            if (w.after(n).said() == w.after(n + 8).said()) {
                return n;
            }
        }
        return -9;
    }

    private int[] bestDress;
    private int bestCan;

    private long dress(int caller) {
        if (caller != -1) {
            who(caller);
        }
        bestCan = -1;
        tryDress(new int[w.callers.size()], 0);
        return caller == -1 ? bestCan : bestDress[caller];
    }

    /** All ways in their order; the first of the best stays. */
    private void tryDress(int[] wear, int at) {
        if (at == wear.length) {
            int can = 0;
            for (int c = 0; c < wear.length; c++) {
                Caller d = new Caller();
                d.fear = w.callers.get(c).fear;
                d.sore = w.callers.get(c).sore;
                d.said = w.callers.get(c).said;
                d.in = wear[c] == -9 ? null : w.suits.get(wear[c]);
                can += d.can() ? 1 : 0;
            }
            if (can > bestCan) {
                bestCan = can;
                bestDress = wear.clone();
            }
            return;
        }
        for (int s = 0; s <= w.suits.size(); s++) {
            int suit = s == w.suits.size() ? -9 : s;
            boolean free = true;
            for (int c = 0; c < at; c++) {
                free &= suit == -9 || wear[c] != suit;
            }
            if (free) {
                wear[at] = suit;
                tryDress(wear, at + 1);
            }
        }
    }

    private long suitBest(int caller, int n, int what) {
        who(caller);
        within(n, 0, 30);
        what(what, 2);
        World none = w.copy();
        none.callers.get(caller).in = null;
        int most = none.after(n).callers.get(caller).said;
        int best = -9;
        for (int s = 0; s < w.suits.size(); s++) {
            World then = w.copy();
            then.wear(caller, s);
            int said = then.after(n).callers.get(caller).said;
            if (said > most) {
                most = said;
                best = s;
            }
        }
        return what == 0 ? best : best == -9 ? -9 : most;
    }

    private long change(int n) {
        int most = w.after(n).said();
        int best = -9;
        for (int pair = 1; pair < 45; pair++) {
            int a = pair / 10;
            int b = pair % 10;
            if (a < b && b < w.callers.size()) {
                World then = w.copy();
                Suit his = then.callers.get(a).in;
                then.callers.get(a).in = then.callers.get(b).in;
                then.callers.get(b).in = his;
                int said = then.after(n).said();
                if (said > most) {
                    most = said;
                    best = pair;
                }
            }
        }
        return best;
    }

    private long fewest(int n) {
        int in = 0;
        for (int c = 0; c < w.callers.size(); c++) {
            in |= w.callers.get(c).in == null ? 0 : 1 << c;
        }
        long want = w.after(n).saidAll();
        int best = in;
        for (int set = 0; set < 32; set++) {
            if ((set & ~in) == 0 && Integer.bitCount(set) < Integer.bitCount(best)) {
                World then = w.copy();
                for (int c = 0; c < w.callers.size(); c++) {
                    if ((set >> c & 1) == 0) {
                        then.callers.get(c).in = null;
                    }
                }
                if (then.after(n).saidAll() == want) {
                    best = set;
                }
            }
        }
        return best;
    }

    private long spare(int n, int what) {
        int most = -9;
        int best = -9;
        for (int c = 0; c < w.callers.size(); c++) {
            if (w.callers.get(c).in != null) {
                World then = w.copy();
                then.callers.get(c).in = null;
                int said = then.after(n).said();
                if (said > most) {
                    most = said;
                    best = c;
                }
            }
        }
        return what == 0 ? best : most;
    }

    private long cheer(int n) {
        int most = w.after(n).said();
        int best = -9;
        for (int c = 0; c < w.callers.size(); c++) {
            World then = w.copy();
            then.callers.get(c).fear = Math.max(0, w.callers.get(c).fear - 3);
            int said = then.after(n).said();
            if (said > most) {
                most = said;
                best = c;
            }
        }
        return best;
    }

    private long boldest(int what) {
        int best = -9;
        int most = Integer.MIN_VALUE;
        for (int c = 0; c < w.callers.size(); c++) {
            int his = what == 0 ? w.callers.get(c).courage() : w.callers.get(c).sore;
            if (his > most) {
                most = his;
                best = c;
            }
        }
        return best;
    }

    private long left() {
        int bits = 0;
        for (int s = 0; s < w.suits.size(); s++) {
            bits += w.wearer(s) == -9 ? 1 << s : 0;
        }
        return bits;
    }

    private long order(int i) {
        within(i, 0, Integer.MAX_VALUE);
        List<Suit> sorted = new ArrayList<>(w.suits);
        sorted.sort((a, b) -> b.covers() - a.covers());
        return i < sorted.size() ? w.suits.indexOf(sorted.get(i)) : -9;
    }

    private long heard(int saying) {
        if (saying < 0 || saying > 5) {
            throw new Refused(-1);
        }
        return w.callers.stream().filter(c -> c.said >= saying + 1).count();
    }

    private long rusted(int suit) {
        which(suit);
        for (int rust = 0; rust <= 9; rust++) {
            World then = w.copy();
            then.suits.get(suit).rust = rust;
            int c = then.wearer(suit);
            if (c != -9 && then.callers.get(c).said < 6 && !then.callers.get(c).can()) {
                return rust;
            }
        }
        return -9;
    }

    private int wish(int him, int other, boolean hisOn, boolean otherOn, int n) {
        World then = w.copy();
        Caller c = then.callers.get(him);
        Caller d = then.callers.get(other);
        c.in = hisOn ? c.in : null;
        d.in = otherOn ? d.in : null;
        for (int i = 0; i < n; i++) {
            then.day();
        }
        return c.said + (d.said >= c.said ? 2 : 0) - c.sore / 6;
    }

    private long two(int a, int b, int n) {
        who(a);
        who(b);
        if (a == b) {
            throw new Refused(-1);
        }
        within(n, 0, 30);
        if (who(a).in == null || who(b).in == null) {
            throw new Refused(-3);
        }
        for (int pair : new int[] {0, 1, 10, 11}) {
            boolean i = pair / 10 == 1;
            boolean j = pair % 10 == 1;
            if (wish(a, b, !i, j, n) <= wish(a, b, i, j, n) && wish(b, a, !j, i, n) <= wish(b, a, j, i, n)) {
                return pair;
            }
        }
        return -9;
    }

    /** How many of the t to the n ways have it, the first day's rain chosen first. */
    private static BigInteger ways(World now, int caller, int n, int t, int v) {
        if (n == 0) {
            return now.callers.get(caller).said >= v ? BigInteger.ONE : BigInteger.ZERO;
        }
        World wet = now.copy();
        for (Suit s : wet.suits) {
            s.rust = Math.min(9, s.rust + 1);
        }
        return ways(now.after(1), caller, n - 1, t, v).multiply(BigInteger.valueOf(t - 1))
            .add(ways(wet.after(1), caller, n - 1, t, v));
    }

    private long rain(int[] a) {
        who(a[0]);
        if (a[1] < 0 || a[2] < 2 || a[3] < 0) {
            throw new Refused(-4);
        }
        if (a[1] > 7 || a[2] > 20 || a[3] > 6) {
            throw new Refused(-6);
        }
        what(a[4], 2);
        return part(ways(w, a[0], a[1], a[2], a[3]), BigInteger.valueOf(a[2]).pow(a[1]), a[4]);
    }

    private static long part(BigInteger above, BigInteger below, int part) {
        BigInteger by = above.gcd(below);
        return (part == 0 ? above : below).divide(by).longValueExact();
    }

    private long mean(int part) {
        if (w.callers.isEmpty()) {
            return part == 0 ? 0 : 1;
        }
        int sum = w.callers.stream().mapToInt(c -> c.courage() + 50).sum();
        return part(BigInteger.valueOf(sum), BigInteger.valueOf(w.callers.size()), part);
    }

    private long whatIs(int suit, int what) {
        which(suit);
        what(what, 2);
        int c = w.wearer(suit);
        int bits = 0;
        for (int choice = 0; c != -9 && choice < (what == 0 ? 6 : 10); choice++) {
            World then = w.copy();
            if (what == 0) {
                then.suits.get(suit).kind = choice;
            } else {
                then.suits.get(suit).figure = choice;
            }
            boolean so = true;
            for (int i = 0; i < row.size(); i++) {
                so &= then.after(i).callers.get(c).said == row.get(i);
            }
            bits |= so ? 1 << choice : 0;
        }
        return bits;
    }

    private long row(int v) {
        within(v, 0, 99);
        within(row.size() + 1, 0, 16);
        row.add(v);
        return row.size();
    }

    private long judge() {
        List<Integer> said = new ArrayList<>(row);
        row.clear();
        for (int i = 0; i < said.size(); i++) {
            if (i >= w.callers.size() || w.callers.get(i).fear != said.get(i)) {
                return i;
            }
        }
        return -9;
    }

    private long clear() {
        int had = row.size();
        row.clear();
        return had;
    }

    private long lots(int n, int z, int what) {
        int seed = z;
        int said = 0;
        int paid = 0;
        for (int i = 0; i < n; i++) {
            World season = w.copy();
            for (Caller c : season.callers) {
                seed = seed * 1664525 + 1013904223;
                c.fear = ((seed & Integer.MAX_VALUE) >> 8) % 21;
                c.sore = 0;
                c.said = 0;
            }
            season = season.after(8);
            said += season.said();
            paid += season.paid - w.paid;
        }
        return what == 0 ? said : paid;
    }

    private long on() {
        if (image == null) {
            throw new Refused(-3);
        }
        w = image.copy();
        return w.day;
    }

    private long count(int what) {
        if (what >= 0 && what <= 7) {
            return new int[] {w.suits.size(), w.callers.size(), w.day, w.paid, w.said(), w.fear(), row.size(),
                letters.length()}[what];
        }
        return what >= 11 && what <= 16 ? refusals[what - 10] : -9;
    }

    @Override
    public String toString() {
        StringBuilder all = new StringBuilder("day " + w.day + " paid " + w.paid);
        for (Suit s : w.suits) {
            all.append(" suit ").append(Arrays.toString(new int[] {s.kind, s.figure, s.rust}));
        }
        for (int c = 0; c < w.callers.size(); c++) {
            Caller d = w.callers.get(c);
            all.append(" caller ").append(Arrays.toString(new int[] {d.fear, d.sore, d.said, w.suitOf(c)}));
        }
        return all.toString();
    }
}
