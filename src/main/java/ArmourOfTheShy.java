/** A city of the shy: who says what when, in which suit. The words in capitals of DOC.md are used here as names. */
public final class ArmourOfTheShy {
    private static final int MOST_SUITS = 6;
    private static final int MOST_CALLERS = 5;
    private static final int MOST_SAYINGS = 6;
    private static final int MOST_LETTERS = 96;
    private static final int MOST_IN_ROW = 16;
    private static final int MOST_KINDS = 6;
    private static final int GREATEST_FIGURE = 9;
    private static final int GREATEST_RUST = 9;
    private static final int GREATEST_FEAR = 20;
    private static final int GREATEST_SORE = 20;
    private static final int GREATEST_PAID = 9999;
    private static final int GREATEST_DAY = 999;
    private static final int MOST_DAYS = 60;
    private static final int STILL_DAYS = 8;
    private static final int SEASON_DAYS = 8;
    private static final int TOO_SORE = 15;

    private static final int NONE = -9;
    private static final int FITS = 0;
    private static final int NOBODY = -1;
    private static final int OTHER = -2;
    private static final int STATE = -3;
    private static final int BELOW = -4;
    private static final int ROOM = -6;
    private static final int COURAGE_REFUSED = 1000000000;
    private static final long LONG_REFUSED = 4000000000000000000L;

    /** By KIND (p m g f b o): COVERS in halves of what a PLATE of its FIGURE and RUST COVERS, and how much is added. */
    private static final int[] COVER_HALVES = {2, 2, 1, 4, 4, 2};
    private static final int[] COVER_MORE = {0, -2, 0, 0, 5, -2};
    /** By KIND: how much SORE in a DAY, without what RUST or an odd DAY adds, and what it costs a DAY. */
    private static final int[] CHAFE = {2, 1, 0, 3, 3, 1};
    private static final int[] PRICE = {3, 2, 1, 6, 6, 0};
    private static final int BLACK = 4;
    private static final int OLD = 5;

    private final City now = new City();
    private final City thought = new City();
    private final City kept = new City();
    private boolean isKept = false;
    private final Letters letters = new Letters();
    private final Dresser dresser = new Dresser();
    private final int[] told = new int[MOST_IN_ROW];
    private int toldCount = 0;
    private final int[] refusals = new int[7];
    private final int[] totals = new int[MOST_DAYS + STILL_DAYS + 1];
    private final int[] firstWish = new int[4];
    private final int[] otherWish = new int[4];

    public ArmourOfTheShy() {
    }

    public int letter(int c) {
        int why = range(c, 0, 255);
        if (why == FITS && letters.count >= MOST_LETTERS) {
            why = ROOM;
        }
        if (why != FITS) {
            return refuse(why);
        }
        return letters.add(c);
    }

    public int city() {
        int place = letters.wrongPlace();
        int answer = place == NONE ? 0 : -1000 - place;
        // The STATEMENTS come in mind first, because with a FAULT in any of them none may come.
        think();
        for (int at = 0; answer >= 0 && at < letters.count; at += Math.max(letters.lengthAt(at), 1)) {
            answer = letters.takes(thought, at) ? answer + 1 : -2000 - at;
        }
        if (answer >= 0) {
            now.copyFrom(thought);
        }
        letters.count = 0;
        return answer;
    }

    public int suit(int suit, int what) {
        int why = firstOf(anySuit(suit), anyOf(what, 7), FITS);
        if (why != FITS) {
            return refuse(why);
        }
        switch (what) {
            case 0:
                return now.kind[suit];
            case 1:
                return now.figure[suit];
            case 2:
                return now.rust[suit];
            case 3:
                return now.covers(suit);
            case 4:
                return now.chafe(suit, now.day + 1);
            case 5:
                return PRICE[now.kind[suit]];
            default:
                return now.wearer(suit);
        }
    }

    public int caller(int caller, int what) {
        int why = firstOf(anyCaller(caller), anyOf(what, 6), FITS);
        if (why != FITS) {
            return refuse(why);
        }
        switch (what) {
            case 0:
                return now.fear[caller];
            case 1:
                return now.sore[caller];
            case 2:
                return now.said[caller];
            case 3:
                return now.suitOf[caller];
            case 4:
                return now.can(caller) ? 1 : 0;
            default:
                return now.lacks(caller);
        }
    }

    public int courage(int caller) {
        int why = anyCaller(caller);
        if (why != FITS) {
            return COURAGE_REFUSED - refuse(why);
        }
        return now.bravery(caller);
    }

    public int wears(int caller, int suit) {
        int why = firstOf(anyCaller(caller), anySuit(suit), FITS);
        if (why != FITS) {
            return refuse(why);
        }
        int had = now.suitOf[caller];
        now.putIn(caller, suit);
        return had;
    }

    public int takesOff(int caller) {
        int why = firstOf(anyCaller(caller), inSuit(caller), FITS);
        if (why != FITS) {
            return refuse(why);
        }
        int had = now.suitOf[caller];
        now.suitOf[caller] = NONE;
        return had;
    }

    public int fears(int caller, int v) {
        int why = firstOf(anyCaller(caller), range(v, 0, GREATEST_FEAR), FITS);
        if (why != FITS) {
            return refuse(why);
        }
        int had = now.fear[caller];
        now.fear[caller] = v;
        return had;
    }

    public int rusts(int suit, int v) {
        int why = firstOf(anySuit(suit), range(v, 0, GREATEST_RUST), FITS);
        if (why != FITS) {
            return refuse(why);
        }
        int had = now.rust[suit];
        now.rust[suit] = v;
        return had;
    }

    public int soothes(int caller, int v) {
        int why = firstOf(anyCaller(caller), range(v, 0, GREATEST_SORE), FITS);
        if (why != FITS) {
            return refuse(why);
        }
        int had = now.sore[caller];
        now.sore[caller] = v;
        return had;
    }

    public int turn(int suit, int kind, int figure) {
        int why = firstOf(anySuit(suit), anyOf(kind, MOST_KINDS), range(figure, 0, GREATEST_FIGURE));
        if (why != FITS) {
            return refuse(why);
        }
        int had = 10 * now.kind[suit] + now.figure[suit];
        now.kind[suit] = kind;
        now.figure[suit] = figure;
        return had;
    }

    public int days(int n) {
        int why = range(n, 1, MOST_DAYS);
        if (why == FITS && now.day + n > GREATEST_DAY) {
            why = ROOM;
        }
        if (why != FITS) {
            return refuse(why);
        }
        now.passDays(n);
        return now.allSaid();
    }

    public int callerThen(int caller, int n, int what) {
        int why = firstOf(anyCaller(caller), range(n, 0, MOST_DAYS), anyOf(what, 3));
        if (why != FITS) {
            return refuse(why);
        }
        think();
        thought.passDays(n);
        if (what == 0) {
            return thought.said[caller];
        }
        return what == 1 ? thought.fear[caller] : thought.sore[caller];
    }

    public int suitThen(int suit, int n) {
        int why = firstOf(anySuit(suit), range(n, 0, MOST_DAYS), FITS);
        if (why != FITS) {
            return refuse(why);
        }
        think();
        thought.passDays(n);
        return thought.wearer(suit);
    }

    public int cost(int n) {
        int why = range(n, 0, MOST_DAYS);
        if (why != FITS) {
            return refuse(why);
        }
        think();
        thought.passDays(n);
        return thought.paid - now.paid;
    }

    public int proposes(int caller) {
        if (caller == -1) {
            return firstToPropose();
        }
        int why = anyCaller(caller);
        if (why != FITS) {
            return refuse(why);
        }
        think();
        for (int n = 0; n <= MOST_DAYS; n++) {
            if (thought.said[caller] >= MOST_SAYINGS) {
                return n;
            }
            thought.passDays(1);
        }
        return NONE;
    }

    public int out(int caller) {
        int why = anyCaller(caller);
        if (why != FITS) {
            return refuse(why);
        }
        think();
        for (int n = 0; n <= MOST_DAYS; n++) {
            if (thought.suitOf[caller] == NONE) {
                return n;
            }
            thought.passDays(1);
        }
        return NONE;
    }

    public int still() {
        think();
        totals[0] = thought.allSaid();
        for (int n = 1; n <= MOST_DAYS + STILL_DAYS; n++) {
            totals[n] = allSaidBehind(1);
        }
        for (int n = 0; n <= MOST_DAYS; n++) {
            if (totals[n] == totals[n + STILL_DAYS]) {
                return n;
            }
        }
        return NONE;
    }

    public int dress(int caller) {
        if (caller == -1) {
            return dresser.most(now);
        }
        int why = anyCaller(caller);
        if (why != FITS) {
            return refuse(why);
        }
        return dresser.suitFor(now, caller);
    }

    public int suitBest(int caller, int n, int what) {
        int why = firstOf(anyCaller(caller), range(n, 0, 30), anyOf(what, 2));
        if (why != FITS) {
            return refuse(why);
        }
        int best = NONE;
        // In none nobody says anything, so that what he has SAID now is what he has SAID then.
        int most = now.said[caller];
        for (int suit = 0; suit < now.suits; suit++) {
            think();
            thought.putIn(caller, suit);
            thought.passDays(n);
            if (thought.said[caller] > most) {
                most = thought.said[caller];
                best = suit;
            }
        }
        return what == 0 || best == NONE ? best : most;
    }

    public int change(int n) {
        int why = range(n, 0, 20);
        if (why != FITS) {
            return refuse(why);
        }
        think();
        int most = allSaidBehind(n);
        int best = NONE;
        for (int a = 0; a < now.callers; a++) {
            for (int b = a + 1; b < now.callers; b++) {
                think();
                thought.suitOf[a] = now.suitOf[b];
                thought.suitOf[b] = now.suitOf[a];
                int all = allSaidBehind(n);
                if (all > most) {
                    most = all;
                    best = 10 * a + b;
                }
            }
        }
        return best;
    }

    public int fewest(int n) {
        int why = range(n, 0, 30);
        if (why != FITS) {
            return refuse(why);
        }
        think();
        thought.passDays(n);
        // No CALLER's DAYS touch another's: each who comes to the last SAYING only in his SUIT must stay, no other.
        int bits = 0;
        for (int c = 0; c < now.callers; c++) {
            if (now.said[c] < MOST_SAYINGS && thought.said[c] >= MOST_SAYINGS) {
                bits |= 1 << c;
            }
        }
        return bits;
    }

    public int spare(int n, int what) {
        int why = firstOf(range(n, 1, 30), anyOf(what, 2), FITS);
        if (why != FITS) {
            return refuse(why);
        }
        int best = NONE;
        int most = NONE;
        for (int c = 0; c < now.callers; c++) {
            if (now.suitOf[c] != NONE) {
                think();
                thought.suitOf[c] = NONE;
                int all = allSaidBehind(n);
                if (all > most) {
                    most = all;
                    best = c;
                }
            }
        }
        return what == 0 ? best : most;
    }

    public int cheer(int n) {
        int why = range(n, 0, 30);
        if (why != FITS) {
            return refuse(why);
        }
        think();
        int most = allSaidBehind(n);
        int best = NONE;
        for (int c = 0; c < now.callers; c++) {
            think();
            thought.fear[c] = Math.max(now.fear[c] - 3, 0);
            int all = allSaidBehind(n);
            if (all > most) {
                most = all;
                best = c;
            }
        }
        return best;
    }

    public int boldest(int what) {
        int why = anyOf(what, 2);
        if (why != FITS) {
            return refuse(why);
        }
        int best = NONE;
        int most = 0;
        for (int c = 0; c < now.callers; c++) {
            int his = what == 0 ? now.bravery(c) : now.sore[c];
            if (best == NONE || his > most) {
                most = his;
                best = c;
            }
        }
        return best;
    }

    public int left() {
        int bits = 0;
        for (int suit = 0; suit < now.suits; suit++) {
            if (now.wearer(suit) == NONE) {
                bits |= 1 << suit;
            }
        }
        return bits;
    }

    public int order(int i) {
        if (i < 0) {
            return refuse(BELOW);
        }
        for (int suit = 0; suit < now.suits; suit++) {
            if (suitsAhead(suit) == i) {
                return suit;
            }
        }
        return NONE;
    }

    public int heard(int saying) {
        if (saying < 0 || saying >= MOST_SAYINGS) {
            return refuse(NOBODY);
        }
        int many = 0;
        for (int c = 0; c < now.callers; c++) {
            if (now.said[c] > saying) {
                many++;
            }
        }
        return many;
    }

    public int rusted(int suit) {
        int why = anySuit(suit);
        if (why != FITS) {
            return refuse(why);
        }
        int c = now.wearer(suit);
        if (c == NONE || now.said[c] >= MOST_SAYINGS) {
            return NONE;
        }
        for (int rust = 0; rust <= GREATEST_RUST; rust++) {
            if (!now.canCovered(c, now.coversWith(suit, rust))) {
                return rust;
            }
        }
        return NONE;
    }

    public int two(int a, int b, int n) {
        int why = firstOf(anyCaller(a), anyCaller(b), a == b ? NOBODY : FITS);
        if (why == FITS) {
            why = firstOf(range(n, 0, 30), inSuit(a), inSuit(b));
        }
        if (why != FITS) {
            return refuse(why);
        }
        for (int pair = 0; pair < 4; pair++) {
            thinkPair(a, b, pair, n);
            firstWish[pair] = wish(a, b);
            otherWish[pair] = wish(b, a);
        }
        for (int pair = 0; pair < 4; pair++) {
            if (firstWish[pair] >= firstWish[pair ^ 2] && otherWish[pair] >= otherWish[pair ^ 1]) {
                return 10 * (pair >> 1) + (pair & 1);
            }
        }
        return NONE;
    }

    public long rain(int caller, int n, int t, int v, int part) {
        int why = firstOf(anyCaller(caller), rainRange(n, t, v), anyOf(part, 2));
        if (why != FITS) {
            return LONG_REFUSED - refuse(why);
        }
        long all = 1;
        for (int day = 0; day < n; day++) {
            all *= t;
        }
        long good = 0;
        for (int wetDays = 0; wetDays < 1 << n; wetDays++) {
            if (saidInRain(caller, n, wetDays) >= v) {
                good += waysOfRain(n, t, wetDays);
            }
        }
        return partOf(good, all, part);
    }

    public long mean(int part) {
        int why = anyOf(part, 2);
        if (why != FITS) {
            return LONG_REFUSED - refuse(why);
        }
        if (now.callers == 0) {
            return part;
        }
        long sum = 0;
        for (int c = 0; c < now.callers; c++) {
            sum += now.bravery(c) + 50;
        }
        return partOf(sum, now.callers, part);
    }

    public int whatIs(int suit, int what) {
        int why = firstOf(anySuit(suit), anyOf(what, 2), FITS);
        if (why != FITS) {
            return refuse(why);
        }
        int c = now.wearer(suit);
        if (c == NONE) {
            return 0;
        }
        int bits = 0;
        int choices = what == 0 ? MOST_KINDS : GREATEST_FIGURE + 1;
        for (int choice = 0; choice < choices; choice++) {
            think();
            if (what == 0) {
                thought.kind[suit] = choice;
            } else {
                thought.figure[suit] = choice;
            }
            if (saysTheRow(c)) {
                bits |= 1 << choice;
            }
        }
        return bits;
    }

    public int row(int v) {
        int why = range(v, 0, 99);
        if (why == FITS && toldCount >= MOST_IN_ROW) {
            why = ROOM;
        }
        if (why != FITS) {
            return refuse(why);
        }
        told[toldCount] = v;
        toldCount++;
        return toldCount;
    }

    public int judge() {
        int wrong = NONE;
        for (int i = toldCount - 1; i >= 0; i--) {
            if (i >= now.callers || now.fear[i] != told[i]) {
                wrong = i;
            }
        }
        toldCount = 0;
        return wrong;
    }

    public int clear() {
        int had = toldCount;
        toldCount = 0;
        return had;
    }

    public int lots(int n, int z, int what) {
        int why = firstOf(range(n, 1, 20), anyOf(what, 2), FITS);
        if (why != FITS) {
            return refuse(why);
        }
        int seed = z;
        int allSaid = 0;
        int paidMore = 0;
        for (int season = 0; season < n; season++) {
            // Each season starts from the CITY as it is now; only the seed goes on from one to the next.
            think();
            for (int c = 0; c < now.callers; c++) {
                seed = seed * 1664525 + 1013904223;
                thought.fear[c] = (seed & 0x7fffffff) / 256 % (GREATEST_FEAR + 1);
                thought.sore[c] = 0;
                thought.said[c] = 0;
            }
            allSaid += allSaidBehind(SEASON_DAYS);
            paidMore += thought.paid - now.paid;
        }
        return what == 0 ? allSaid : paidMore;
    }

    public int image() {
        kept.copyFrom(now);
        isKept = true;
        return now.day;
    }

    public int on() {
        if (!isKept) {
            return refuse(STATE);
        }
        now.copyFrom(kept);
        return now.day;
    }

    public int count(int what) {
        switch (what) {
            case 0:
                return now.suits;
            case 1:
                return now.callers;
            case 2:
                return now.day;
            case 3:
                return now.paid;
            case 4:
                return now.allSaid();
            case 5:
                return now.allFear();
            case 6:
                return toldCount;
            case 7:
                return letters.count;
            default:
                return what >= 11 && what <= 16 ? refusals[what - 10] : NONE;
        }
    }

    private int refuse(int why) {
        refusals[-why]++;
        return why;
    }

    private static int firstOf(int a, int b, int c) {
        if (a != FITS) {
            return a;
        }
        return b != FITS ? b : c;
    }

    private static int range(int v, int least, int greatest) {
        if (v < least) {
            return BELOW;
        }
        return v > greatest ? ROOM : FITS;
    }

    private static int anyOf(int what, int many) {
        return what >= 0 && what < many ? FITS : OTHER;
    }

    private int anySuit(int suit) {
        return suit >= 0 && suit < now.suits ? FITS : NOBODY;
    }

    private int anyCaller(int caller) {
        return caller >= 0 && caller < now.callers ? FITS : NOBODY;
    }

    private int inSuit(int caller) {
        boolean is = anyCaller(caller) == FITS && now.suitOf[caller] != NONE;
        return is ? FITS : STATE;
    }

    /** All that is BELOW is told ahead of what has no ROOM, whichever number it is. */
    private static int rainRange(int n, int t, int v) {
        if (n < 0 || v < 0 || t < 2) {
            return BELOW;
        }
        return n > 7 || t > 20 || v > MOST_SAYINGS ? ROOM : FITS;
    }

    private void think() {
        thought.copyFrom(now);
    }

    private int allSaidBehind(int n) {
        thought.passDays(n);
        return thought.allSaid();
    }

    private int firstToPropose() {
        think();
        for (int n = 0; n <= MOST_DAYS; n++) {
            for (int c = 0; c < thought.callers; c++) {
                if (thought.said[c] >= MOST_SAYINGS) {
                    return c;
                }
            }
            thought.passDays(1);
        }
        return NONE;
    }

    private int suitsAhead(int suit) {
        int ahead = 0;
        int his = now.covers(suit);
        for (int s = 0; s < now.suits; s++) {
            int covers = now.covers(s);
            if (covers > his || covers == his && s < suit) {
                ahead++;
            }
        }
        return ahead;
    }

    /** The upper bit of a pair is the first's choice, the lower the other's; 1 stays in his SUIT. */
    private void thinkPair(int a, int b, int pair, int n) {
        think();
        if ((pair & 2) == 0) {
            thought.suitOf[a] = NONE;
        }
        if ((pair & 1) == 0) {
            thought.suitOf[b] = NONE;
        }
        thought.passDays(n);
    }

    private int wish(int c, int other) {
        int more = thought.said[other] >= thought.said[c] ? 2 : 0;
        return thought.said[c] + more - thought.sore[c] / 6;
    }

    private int saidInRain(int caller, int n, int wetDays) {
        think();
        for (int day = 0; day < n; day++) {
            if ((wetDays >> day & 1) == 1) {
                thought.rainOnAll();
            }
            thought.passDayOf(caller);
        }
        return thought.said[caller];
    }

    /** Of the t lots that each DAY has, one is wet and the others are dry. */
    private static long waysOfRain(int n, int t, int wetDays) {
        long ways = 1;
        for (int day = 0; day < n; day++) {
            if ((wetDays >> day & 1) == 0) {
                ways *= t - 1;
            }
        }
        return ways;
    }

    /** A part of a fraction that is 0 or more, in its lowest terms. */
    private static long partOf(long above, long below, int part) {
        long a = above;
        long b = below;
        for (int step = 0; step < 200 && b != 0; step++) {
            long rest = a % b;
            a = b;
            b = rest;
        }
        if (a == 0) {
            return part;
        }
        return part == 0 ? above / a : below / a;
    }

    private boolean saysTheRow(int caller) {
        for (int i = 0; i < toldCount; i++) {
            if (i > 0) {
                thought.passDayOf(caller);
            }
            if (thought.said[caller] != told[i]) {
                return false;
            }
        }
        return true;
    }

    /** All that an IMAGE keeps: SUITS, CALLERS, PAID and DAY. */
    private static final class City {
        final int[] kind = new int[MOST_SUITS];
        final int[] figure = new int[MOST_SUITS];
        final int[] rust = new int[MOST_SUITS];
        final int[] fear = new int[MOST_CALLERS];
        final int[] sore = new int[MOST_CALLERS];
        final int[] said = new int[MOST_CALLERS];
        final int[] suitOf = new int[MOST_CALLERS];
        int suits = 0;
        int callers = 0;
        int paid = 0;
        int day = 0;

        void copyFrom(City other) {
            System.arraycopy(other.kind, 0, kind, 0, MOST_SUITS);
            System.arraycopy(other.figure, 0, figure, 0, MOST_SUITS);
            System.arraycopy(other.rust, 0, rust, 0, MOST_SUITS);
            System.arraycopy(other.fear, 0, fear, 0, MOST_CALLERS);
            System.arraycopy(other.sore, 0, sore, 0, MOST_CALLERS);
            System.arraycopy(other.said, 0, said, 0, MOST_CALLERS);
            System.arraycopy(other.suitOf, 0, suitOf, 0, MOST_CALLERS);
            suits = other.suits;
            callers = other.callers;
            paid = other.paid;
            day = other.day;
        }

        boolean addSuit(int newKind, int newFigure) {
            if (suits >= MOST_SUITS) {
                return false;
            }
            kind[suits] = newKind;
            figure[suits] = newFigure;
            rust[suits] = 0;
            suits++;
            return true;
        }

        boolean addCaller(int newFear) {
            if (callers >= MOST_CALLERS || newFear > GREATEST_FEAR) {
                return false;
            }
            fear[callers] = newFear;
            sore[callers] = 0;
            said[callers] = 0;
            suitOf[callers] = NONE;
            callers++;
            return true;
        }

        void putIn(int caller, int suit) {
            int had = wearer(suit);
            if (had != NONE) {
                suitOf[had] = NONE;
            }
            suitOf[caller] = suit;
        }

        int wearer(int suit) {
            for (int c = 0; c < callers; c++) {
                if (suitOf[c] == suit) {
                    return c;
                }
            }
            return NONE;
        }

        int covers(int suit) {
            return coversWith(suit, rust[suit]);
        }

        int coversWith(int suit, int someRust) {
            int plate = figure[suit] + 4 - someRust;
            if (plate < 0) {
                plate = 0;
            }
            int covers = plate * COVER_HALVES[kind[suit]] / 2 + COVER_MORE[kind[suit]];
            return covers < 0 ? 0 : covers;
        }

        int chafe(int suit, int onDay) {
            int chafe = CHAFE[kind[suit]];
            if (kind[suit] == BLACK) {
                return chafe + rust[suit] / 3;
            }
            return kind[suit] == OLD ? chafe + onDay % 2 : chafe;
        }

        int bravery(int caller) {
            int suit = suitOf[caller];
            return braveryCovered(caller, suit == NONE ? 0 : coversWith(suit, rust[suit]));
        }

        int braveryCovered(int caller, int covers) {
            return covers + said[caller] - fear[caller] - sore[caller] / 3;
        }

        boolean can(int caller) {
            return said[caller] < MOST_SAYINGS && bravery(caller) >= needs(caller);
        }

        boolean canCovered(int caller, int covers) {
            return said[caller] < MOST_SAYINGS && braveryCovered(caller, covers) >= needs(caller);
        }

        /** What the next SAYING WEIGHS, less 6. */
        int needs(int caller) {
            return 2 * said[caller] + 2 - 6;
        }

        int lacks(int caller) {
            return said[caller] >= MOST_SAYINGS ? 0 : Math.max(needs(caller) - bravery(caller), 0);
        }

        void passDays(int n) {
            for (int i = 0; i < n; i++) {
                day++;
                for (int c = 0; c < callers; c++) {
                    liveDay(c);
                }
                if (day % 5 == 0) {
                    rustUnworn();
                }
            }
        }

        /** A DAY for one alone, where nothing is asked but of him: no other's DAY touches him. */
        void passDayOf(int caller) {
            day++;
            liveDay(caller);
        }

        void liveDay(int caller) {
            int suit = suitOf[caller];
            if (suit == NONE) {
                sore[caller] = Math.max(sore[caller] - 1, 0);
                return;
            }
            paid = Math.min(paid + PRICE[kind[suit]], GREATEST_PAID);
            if (can(caller)) {
                said[caller]++;
                fear[caller] = Math.max(fear[caller] - 1, 0);
            } else {
                fear[caller] = Math.min(fear[caller] + 1, GREATEST_FEAR);
            }
            sore[caller] = Math.min(sore[caller] + chafe(suit, day), GREATEST_SORE);
            if (sore[caller] >= TOO_SORE) {
                suitOf[caller] = NONE;
            }
        }

        void rustUnworn() {
            for (int suit = 0; suit < suits; suit++) {
                if (wearer(suit) == NONE) {
                    rust[suit] = Math.min(rust[suit] + 1, GREATEST_RUST);
                }
            }
        }

        void rainOnAll() {
            for (int suit = 0; suit < suits; suit++) {
                rust[suit] = Math.min(rust[suit] + 1, GREATEST_RUST);
            }
        }

        int allSaid() {
            int all = 0;
            for (int c = 0; c < callers; c++) {
                all += said[c];
            }
            return all;
        }

        int allFear() {
            int all = 0;
            for (int c = 0; c < callers; c++) {
                all += fear[c];
            }
            return all;
        }
    }

    /** The letters that have come, and how they are read as STATEMENTS. */
    private static final class Letters {
        private static final String KIND_LETTERS = "pmgfbo";
        final char[] signs = new char[MOST_LETTERS];
        int count = 0;

        int add(int c) {
            signs[count] = (char) c;
            count++;
            return count;
        }

        /** The place of the first sign with which no CITY can go on, the end if something lacks; NONE. */
        int wrongPlace() {
            int start = 0;
            for (int i = 0; i < count; i++) {
                if (!fits(start, i)) {
                    return i;
                }
                if (signs[i] == ';') {
                    start = i + 1;
                }
            }
            return count == 0 || start < count ? count : NONE;
        }

        private boolean fits(int start, int i) {
            int many = signsBehind(signs[start]);
            if (i == start) {
                return many > 0;
            }
            if (i - start > many) {
                return signs[i] == ';';
            }
            if (i == start + 1 && signs[start] == 's') {
                return KIND_LETTERS.indexOf(signs[i]) >= 0;
            }
            return signs[i] >= '0' && signs[i] <= '9';
        }

        /** How many signs stand between the first of a STATEMENT and its ";"; 0: no STATEMENT starts so. */
        private static int signsBehind(int first) {
            switch (first) {
                case 's':
                case 'c':
                case 'w':
                case 'r':
                case 'd':
                    return 2;
                case 'o':
                    return 1;
                case 'f':
                    return 3;
                default:
                    return 0;
            }
        }

        /** With the first sign and the ";". */
        int lengthAt(int at) {
            return signsBehind(signs[at]) + 2;
        }

        /** Whether the STATEMENT is as it must be; it has come then. Only where wrongPlace has found no wrong sign. */
        boolean takes(City city, int at) {
            int first = signs[at];
            switch (first) {
                case 's':
                    return city.addSuit(KIND_LETTERS.indexOf(signs[at + 1]), digit(at + 2));
                case 'c':
                    return city.addCaller(number(at + 1));
                case 'w':
                    return takesWearing(city, digit(at + 1), digit(at + 2));
                case 'o':
                    return takesUndressing(city, digit(at + 1));
                case 'f':
                    return takesFear(city, digit(at + 1), number(at + 2));
                case 'r':
                    return takesRust(city, digit(at + 1), digit(at + 2));
                default:
                    int n = number(at + 1);
                    boolean fits = n >= 1 && n <= MOST_DAYS && city.day + n <= GREATEST_DAY;
                    city.passDays(fits ? n : 0);
                    return fits;
            }
        }

        private int digit(int at) {
            return signs[at] - '0';
        }

        private int number(int at) {
            return 10 * digit(at) + digit(at + 1);
        }

        private static boolean takesWearing(City city, int caller, int suit) {
            if (caller >= city.callers || suit >= city.suits) {
                return false;
            }
            city.putIn(caller, suit);
            return true;
        }

        private static boolean takesUndressing(City city, int caller) {
            if (caller >= city.callers) {
                return false;
            }
            city.suitOf[caller] = NONE;
            return true;
        }

        private static boolean takesFear(City city, int caller, int fear) {
            if (caller >= city.callers || fear > GREATEST_FEAR) {
                return false;
            }
            city.fear[caller] = fear;
            return true;
        }

        private static boolean takesRust(City city, int suit, int rust) {
            if (suit >= city.suits) {
                return false;
            }
            city.rust[suit] = rust;
            return true;
        }
    }

    /** DRESS: for each CALLER on, and SUITS (bits) that are taken by those ahead of him, how many CAN at most. */
    private static final class Dresser {
        private static final int SETS = 1 << MOST_SUITS;
        final int[] best = new int[(MOST_CALLERS + 1) * SETS];
        final int[] canIn = new int[MOST_CALLERS];

        int most(City city) {
            for (int taken = 0; taken < 1 << city.suits; taken++) {
                best[city.callers * SETS + taken] = 0;
            }
            for (int c = city.callers - 1; c >= 0; c--) {
                canIn[c] = bitsOfCan(city, c);
                for (int taken = 0; taken < 1 << city.suits; taken++) {
                    best[c * SETS + taken] = mostOn(city, c, taken);
                }
            }
            return best[0];
        }

        int suitFor(City city, int caller) {
            most(city);
            int taken = 0;
            for (int c = 0; c < caller; c++) {
                int suit = firstBest(city, c, taken);
                if (suit != NONE) {
                    taken |= 1 << suit;
                }
            }
            return firstBest(city, caller, taken);
        }

        /** The SUITS in which he CAN; the bit behind the last SUIT stands for none. */
        private static int bitsOfCan(City city, int caller) {
            int bits = city.canCovered(caller, 0) ? 1 << city.suits : 0;
            for (int suit = 0; suit < city.suits; suit++) {
                if (city.canCovered(caller, city.covers(suit))) {
                    bits |= 1 << suit;
                }
            }
            return bits;
        }

        private int mostOn(City city, int caller, int taken) {
            int most = mostWith(caller, city.suits, taken);
            for (int suit = 0; suit < city.suits; suit++) {
                if ((taken >> suit & 1) == 0) {
                    most = Math.max(most, mostWith(caller, suit, taken | 1 << suit));
                }
            }
            return most;
        }

        private int mostWith(int caller, int suit, int taken) {
            return (canIn[caller] >> suit & 1) + best[(caller + 1) * SETS + taken];
        }

        private int firstBest(City city, int caller, int taken) {
            int most = best[caller * SETS + taken];
            for (int suit = 0; suit < city.suits; suit++) {
                if ((taken >> suit & 1) == 0 && mostWith(caller, suit, taken | 1 << suit) == most) {
                    return suit;
                }
            }
            return NONE;
        }
    }
}
