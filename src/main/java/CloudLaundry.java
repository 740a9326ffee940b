import java.util.Arrays;

/** The mountain's laundry, as the document tells it: clouds, washers, soap, the river, and lines of pegs. */
public final class CloudLaundry {
    public static final int NONE = -1, UNKNOWN = -2, OUTSIDE = -3, NOT = -4, FULL = -5, NULL = -11, INDEX = -12, STORE = -13, CAST = -14, EMPTY = -15, SIZE = -16;

    private static final int CLOUDS = 6, WASHERS = 3, HANDS = 3, STAINS = 6, GOLD = 5, MILES = 7;
    private static final int HEAP = 0, STONE = 1, HUNG = 2, SENT = 3, GONE = 4;
    private static final int LETTERS = 200, CLAUSES = 20;
    private static final int MOST = 99, DEEPEST = 9, FIRST_EYE = 8, MOST_SOAP_ADDED = 20;
    private static final int LAST_HOUR = 999, HOURS_AT_ONCE = 12, HOURS_TAKEN = 60, HOURS_FORETOLD = 20;
    private static final int UNDOS = 8, KEPT = 2, SEEN = 6;
    private static final int LINES = 3, PEGS = 16, MOST_NOTE = 999, ALL_THINGS = 0, CLOUDS_ALONE = 1, NOTES_ALONE = 2;
    private static final int NOTHING = 0, A_CLOUD = 1, A_NOTE = 2;
    private static final int NOTE_SHIFT = 5000, SUM_SHIFT = 100000;
    private static final int TENTHS = 10, MOST_STRUCK = 8;

    private final Kind[] sorts;
    private final Text text;
    private final Reader reader;
    private final Day told;
    private final Day draft;
    private final Day day;
    private final Day foretold;
    private final Plan plan;
    private final int[] readable;
    private final Day[] past;
    private int pasts;
    private final Day[] keptDays;
    private final Text[] keptTexts;
    private final boolean[] isKept;
    private final int[] seenCloud;
    private final int[] seenHands;
    private final int[] seenHours;
    private int seenCount;
    private final Line[] lines;
    private final Line basket;

    public CloudLaundry() {
        Kind white = new White();
        sorts = new Kind[] {white, new Thunder(), new Fog(), new Bride()};
        text = new Text();
        told = new Day(white);
        draft = new Day(white);
        day = new Day(white);
        foretold = new Day(white);
        reader = new Reader(text, draft, sorts);
        plan = new Plan(day);
        readable = new int[MILES];
        past = new Day[UNDOS];
        for (int i = 0; i < UNDOS; i++) {
            past[i] = new Day(white);
        }
        keptDays = new Day[KEPT];
        keptTexts = new Text[KEPT];
        isKept = new boolean[KEPT];
        for (int k = 0; k < KEPT; k++) {
            keptDays[k] = new Day(white);
            keptTexts[k] = new Text();
        }
        seenCloud = new int[SEEN];
        seenHands = new int[SEEN];
        seenHours = new int[SEEN];
        lines = new Line[LINES];
        for (int i = 0; i < LINES; i++) {
            lines[i] = new Line();
        }
        basket = new Line();
    }

    // ---- what is told.

    public int write(int letter) {
        if (letter < 0 || letter > 255) {
            return OUTSIDE;
        }
        return text.add((char) letter) ? text.length : FULL;
    }

    public int erase() {
        int had = text.length;
        text.length = 0;
        return had;
    }

    public int fault() {
        return reader.read(told);
    }

    public int summer() {
        if (reader.read(told) != NONE) {
            return NOT;
        }
        told.copyFrom(draft);
        day.copyFrom(told);
        text.length = 0;
        for (int i = 0; i < LINES; i++) {
            lines[i].there = false;
        }
        for (int k = 0; k < KEPT; k++) {
            isKept[k] = false;
        }
        seenCount = 0;
        pasts = 0;
        return reader.clauses;
    }

    public int cloud(int cloud, int what) {
        Cloud one = day.cloudAt(cloud);
        if (one == null) {
            return UNKNOWN;
        }
        switch (what) {
            case 0: return one.kind.number();
            case 1: return one.size;
            case 2: return one.due;
            case 3: return one.where;
            case 4: return day.washerOf(cloud);
            case 5: return one.hung;
            case 6: return one.isClean() ? 1 : 0;
            case 7: return one.isDry() ? 1 : 0;
            default: return OUTSIDE;
        }
    }

    public int deep(int cloud, int stain) {
        Cloud one = day.cloudAt(cloud);
        if (one == null || stain < 0 || stain >= STAINS) {
            return UNKNOWN;
        }
        return one.deep[stain];
    }

    public int washer(int washer, int what) {
        if (!day.isWasher(washer)) {
            return UNKNOWN;
        }
        switch (what) {
            case 0: return day.hands[washer];
            case 1: return day.has[washer];
            default: return OUTSIDE;
        }
    }

    public int water(int mile, int stain) {
        if (mile < 0 || mile >= MILES || stain < 0 || stain >= STAINS) {
            return UNKNOWN;
        }
        return day.water[mile][stain];
    }

    public int as(int cloud, int kind) {
        Cloud one = day.cloudAt(cloud);
        if (one == null) {
            return UNKNOWN;
        }
        if (kind < 0 || kind > 4) {
            return OUTSIDE;
        }
        return isOne(one.kind, kind) ? one.kind.rubs(HANDS) : NOT;
    }

    // ---- what is done.

    public int wash(int washer, int cloud) {
        Cloud one = day.cloudAt(cloud);
        if (one == null || !day.isWasher(washer)) {
            return UNKNOWN;
        }
        if (one.where != HEAP || day.has[washer] != NONE) {
            return NOT;
        }
        remember();
        one.where = STONE;
        day.has[washer] = cloud;
        return one.allDeep();
    }

    public int hang(int washer) {
        if (!day.isWasher(washer)) {
            return UNKNOWN;
        }
        int number = day.has[washer];
        Cloud one = day.cloudAt(number);
        if (one == null) {
            return NOT;
        }
        remember();
        day.has[washer] = NONE;
        one.where = HUNG;
        return number;
    }

    public int again(int cloud) {
        Cloud one = day.cloudAt(cloud);
        if (one == null) {
            return UNKNOWN;
        }
        if (one.where != HUNG) {
            return NOT;
        }
        remember();
        int hung = one.hung;
        one.where = HEAP;
        one.hung = 0;
        return hung;
    }

    public int send(int cloud) {
        Cloud one = day.cloudAt(cloud);
        if (one == null) {
            return UNKNOWN;
        }
        if (!one.isClean() || !one.isDry()) {
            return NOT;
        }
        remember();
        one.where = SENT;
        one.hung = 0;
        return Math.max(0, day.hour - one.due);
    }

    public int soap(int n) {
        if (n < 1 || n > MOST_SOAP_ADDED) {
            return OUTSIDE;
        }
        if (day.soap + n > MOST) {
            return FULL;
        }
        remember();
        day.soap += n;
        return day.soap;
    }

    public int hour(int n) {
        if (n < 1 || n > HOURS_AT_ONCE) {
            return OUTSIDE;
        }
        if (day.hour + n > LAST_HOUR) {
            return FULL;
        }
        remember();
        for (int i = 0; i < n; i++) {
            day.passHour();
        }
        return day.hour;
    }

    public int undo() {
        if (pasts < 1 || pasts > UNDOS) {
            return NOT;
        }
        pasts--;
        day.copyFrom(past[pasts]);
        return pasts;
    }

    public int keep(int k) {
        if (k < 0 || k >= KEPT) {
            return UNKNOWN;
        }
        keptDays[k].copyFrom(day);
        keptTexts[k].copyFrom(text);
        isKept[k] = true;
        return day.hour;
    }

    public int back(int k) {
        if (k < 0 || k >= KEPT) {
            return UNKNOWN;
        }
        if (!isKept[k]) {
            return NOT;
        }
        day.copyFrom(keptDays[k]);
        text.copyFrom(keptTexts[k]);
        pasts = 0;
        return day.hour;
    }

    // ---- foretold.

    public int takes(int cloud, int hands) {
        Cloud one = day.cloudAt(cloud);
        if (one == null) {
            return UNKNOWN;
        }
        if (hands < 1 || hands > HANDS) {
            return OUTSIDE;
        }
        return one.hoursAs(one.kind, hands);
    }

    public int later(int mile, int n) {
        if (mile < 0 || mile >= MILES) {
            return UNKNOWN;
        }
        if (n < 0 || n > HOURS_FORETOLD) {
            return OUTSIDE;
        }
        foretold.copyFrom(day);
        for (int i = 0; i < n; i++) {
            foretold.passHour();
        }
        return foretold.readAt(mile);
    }

    public int stands(int stains, int n) {
        if (stains < 0 || stains >= 1 << STAINS) {
            return UNKNOWN;
        }
        if (n < 0 || n > HOURS_FORETOLD) {
            return OUTSIDE;
        }
        readAhead(n);
        int best = NONE;
        for (int miles = 0; miles < 1 << MILES; miles++) {
            boolean fewer = best == NONE || Integer.bitCount(miles) < Integer.bitCount(best);
            if (fewer && (stains & ~readFrom(miles)) == 0) {
                best = miles;
            }
        }
        return best;
    }

    public int plan(int cloud) {
        if (cloud != NONE && day.cloudAt(cloud) == null) {
            return UNKNOWN;
        }
        plan.make();
        return cloud == NONE ? plan.most : plan.washerFor(cloud);
    }

    public int needed(int clouds) {
        if (clouds < 0 || clouds >= 1 << day.cloudCount) {
            return UNKNOWN;
        }
        int gold = 0;
        for (int i = 0; i < day.cloudCount && i < CLOUDS; i++) {
            if ((clouds >> i & 1) == 1) {
                gold += day.clouds[i].deep[GOLD];
            }
        }
        return gold;
    }

    // ---- what was seen.

    public int seen(int cloud, int hands, int hours) {
        if (day.cloudAt(cloud) == null) {
            return UNKNOWN;
        }
        if (hands < 1 || hands > HANDS || hours < 0 || hours > HOURS_TAKEN) {
            return OUTSIDE;
        }
        if (seenCount < 0 || seenCount >= SEEN) {
            return FULL;
        }
        seenCloud[seenCount] = cloud;
        seenHands[seenCount] = hands;
        seenHours[seenCount] = hours;
        seenCount++;
        return seenCount;
    }

    public int forget() {
        int had = seenCount;
        seenCount = 0;
        return had;
    }

    public int kinds(int cloud) {
        Cloud one = day.cloudAt(cloud);
        if (one == null) {
            return UNKNOWN;
        }
        int bits = 0;
        for (int i = 0; i < sorts.length; i++) {
            if (agreesWithSeen(cloud, one, sorts[i])) {
                bits |= 1 << i;
            }
        }
        return bits;
    }

    public int lightning(int n, int q, int m, int part) {
        boolean asTold = n >= 0 && n <= MOST_STRUCK && q >= 0 && q <= TENTHS && m >= 0 && m <= MOST_STRUCK + 1;
        if (!asTold || part < 0 || part > 1) {
            return OUTSIDE;
        }
        long above = 0;
        for (int spared = m; spared <= n; spared++) {
            above += choices(n, spared) * power(TENTHS - q, spared) * power(q, n - spared);
        }
        long below = power(TENTHS, n);
        long common = commonDivisor(above, below);
        if (common < 1) {
            return NONE;
        }
        return (int) ((part == 0 ? above : below) / common);
    }

    // ---- lines.

    public int line(int line, int sort, int n) {
        Line one = lineAt(line);
        if (one == null) {
            return UNKNOWN;
        }
        if (sort < ALL_THINGS || sort > NOTES_ALONE || n > PEGS) {
            return OUTSIDE;
        }
        if (n < 0) {
            return SIZE;
        }
        one.stretch(sort, n);
        return n;
    }

    public int pin(int line, int i, int what, int v) {
        Line one = lineAt(line);
        if (one == null || (what == 0 && day.cloudAt(v) == null)) {
            return UNKNOWN;
        }
        if (what < 0 || what > 2 || (what == 1 && (v < -MOST_NOTE || v > MOST_NOTE))) {
            return OUTSIDE;
        }
        if (!one.there) {
            return NULL;
        }
        if (!one.hasPegs(i, 1)) {
            return INDEX;
        }
        int thing = what == 0 ? A_CLOUD : what == 1 ? A_NOTE : NOTHING;
        if (!one.mayHold(thing)) {
            return STORE;
        }
        one.put(i, thing, v);
        return 1;
    }

    public int peg(int line, int i, int what) {
        Line one = lineAt(line);
        if (one == null) {
            return UNKNOWN;
        }
        if (what < 0 || what > 2) {
            return OUTSIDE;
        }
        if (!one.there) {
            return NULL;
        }
        if (!one.hasPegs(i, 1)) {
            return INDEX;
        }
        int thing = one.things[i];
        if (thing == NOTHING) {
            return EMPTY;
        }
        if (what == 2) {
            return thing;
        }
        if (thing != (what == 0 ? A_CLOUD : A_NOTE)) {
            return CAST;
        }
        return thing == A_CLOUD ? one.values[i] : one.values[i] + NOTE_SHIFT;
    }

    public int move(int from, int i, int to, int j, int n) {
        Line source = lineAt(from);
        Line target = lineAt(to);
        if (source == null || target == null) {
            return UNKNOWN;
        }
        if (!source.there || !target.there) {
            return NULL;
        }
        if (!source.hasPegs(i, n) || !target.hasPegs(j, n)) {
            return INDEX;
        }
        // A line may be moved onto itself, so all is taken off before any of it is put.
        basket.take(source, i, n);
        for (int p = 0; p < n; p++) {
            if (!target.mayHold(basket.things[p])) {
                return STORE;
            }
            target.put(j + p, basket.things[p], basket.values[p]);
        }
        return n;
    }

    public int drop(int line) {
        Line one = lineAt(line);
        if (one == null) {
            return UNKNOWN;
        }
        if (!one.there) {
            return NULL;
        }
        one.there = false;
        return one.heldPegs();
    }

    public int sum(int line) {
        Line one = lineAt(line);
        if (one == null) {
            return UNKNOWN;
        }
        if (!one.there) {
            return NULL;
        }
        int all = 0;
        for (int i = 0; i < one.pegs && i < PEGS; i++) {
            if (one.things[i] == A_NOTE) {
                all += one.values[i];
            } else if (one.things[i] == A_CLOUD) {
                Cloud hanging = day.cloudAt(one.values[i]);
                all += hanging == null ? 0 : hanging.allDeep();
            }
        }
        return all + SUM_SHIFT;
    }

    public int count(int what) {
        switch (what) {
            case 0: return day.cloudCount;
            case 1: return day.washerCount;
            case 2: return day.soap;
            case 3: return day.hour;
            case 4: return day.cloudsThatAre(HEAP);
            case 5: return day.cloudsThatAre(HUNG);
            case 6: return day.cloudsThatAre(SENT);
            case 7: return day.cloudsThatAre(GONE);
            case 8: return seenCount;
            case 9: return linesThere();
            case 10: return pasts;
            case 11: return text.length;
            case 12: return day.eye;
            case 13: return day.allWater();
            default: return OUTSIDE;
        }
    }

    // ---- what the calls share.

    /** The day as it is becomes the latest that undo can bring back; the oldest row is used again when all are taken. */
    private void remember() {
        if (pasts < 0 || pasts >= UNDOS) {
            Day oldest = past[0];
            for (int i = 1; i < UNDOS; i++) {
                past[i - 1] = past[i];
            }
            past[UNDOS - 1] = oldest;
            pasts = UNDOS - 1;
        }
        past[pasts].copyFrom(day);
        pasts++;
    }

    private static boolean isOne(Kind kind, int number) {
        switch (number) {
            case 0: return true;
            case 1: return kind instanceof White;
            case 2: return kind instanceof Thunder;
            case 3: return kind instanceof Fog;
            case 4: return kind instanceof Bride;
            default: return false;
        }
    }

    /** Of each mile, what is read there now or in one of the next n hours. */
    private void readAhead(int n) {
        foretold.copyFrom(day);
        for (int mile = 0; mile < MILES; mile++) {
            readable[mile] = foretold.readAt(mile);
        }
        for (int i = 0; i < n; i++) {
            foretold.passHour();
            for (int mile = 0; mile < MILES; mile++) {
                readable[mile] |= foretold.readAt(mile);
            }
        }
    }

    private int readFrom(int miles) {
        int stains = 0;
        for (int mile = 0; mile < MILES; mile++) {
            if ((miles >> mile & 1) == 1) {
                stains |= readable[mile];
            }
        }
        return stains;
    }

    private boolean agreesWithSeen(int cloud, Cloud one, Kind kind) {
        for (int i = 0; i < seenCount && i < SEEN; i++) {
            if (seenCloud[i] == cloud) {
                int hours = one.hoursAs(kind, seenHands[i]);
                if ((hours == NONE ? HOURS_TAKEN : hours) != seenHours[i]) {
                    return false;
                }
            }
        }
        return true;
    }

    private static long choices(int n, int k) {
        long ways = 1;
        for (int i = 1; i <= k; i++) {
            ways = ways * (n - k + i) / i;
        }
        return ways;
    }

    private static long power(int base, int times) {
        long product = 1;
        for (int i = 0; i < times; i++) {
            product *= base;
        }
        return product;
    }

    private static long commonDivisor(long a, long b) {
        long larger = a;
        long smaller = b;
        // Numbers up to 10 to the 8th are through long before the bound.
        for (int i = 0; i < 100 && smaller > 0; i++) {
            long rest = larger % smaller;
            larger = smaller;
            smaller = rest;
        }
        return larger;
    }

    private Line lineAt(int number) {
        return number < 0 || number >= LINES ? null : lines[number];
    }

    private int linesThere() {
        int there = 0;
        for (int i = 0; i < LINES; i++) {
            there += lines[i].there ? 1 : 0;
        }
        return there;
    }

    /** CLOUD, over all kinds: that there is something to say, but not yet what. */
    private abstract static class Kind {
        abstract int number();

        abstract String word();

        abstract int rubs(int hands);

        abstract int shrinks();

        abstract int dries();
    }

    private static class White extends Kind {
        int number() {
            return 0;
        }

        String word() {
            return "white";
        }

        int rubs(int hands) {
            return hands;
        }

        int shrinks() {
            return 1;
        }

        int dries() {
            return 2;
        }
    }

    private static final class Thunder extends White {
        int number() {
            return 1;
        }

        String word() {
            return "thunder";
        }

        int rubs(int hands) {
            return Math.max(1, super.rubs(hands) - 1);
        }

        int dries() {
            return super.dries() + 1;
        }
    }

    private static final class Fog extends White {
        int number() {
            return 2;
        }

        String word() {
            return "fog";
        }

        int shrinks() {
            return 2 * super.shrinks();
        }

        int dries() {
            return super.dries() - 1;
        }
    }

    private static final class Bride extends Kind {
        int number() {
            return 3;
        }

        String word() {
            return "bride";
        }

        int rubs(int hands) {
            return 1;
        }

        int shrinks() {
            return 0;
        }

        int dries() {
            return 4;
        }
    }

    private static final class Cloud {
        private Kind kind;
        private int size;
        private int due;
        private int where;
        private int hung;
        private final int[] deep;

        Cloud(Kind kind) {
            this.kind = kind;
            deep = new int[STAINS];
        }

        void copyFrom(Cloud other) {
            kind = other.kind;
            size = other.size;
            due = other.due;
            where = other.where;
            hung = other.hung;
            System.arraycopy(other.deep, 0, deep, 0, STAINS);
        }

        void begin(Kind newKind, int newSize, int newDue) {
            kind = newKind;
            size = newSize;
            due = newDue;
            where = HEAP;
            hung = 0;
            Arrays.fill(deep, 0);
        }

        int allDeep() {
            int all = 0;
            for (int stain = 0; stain < STAINS; stain++) {
                all += deep[stain];
            }
            return all;
        }

        boolean isClean() {
            return allDeep() == 0;
        }

        boolean isDry() {
            return where == HUNG && hung >= kind.dries();
        }

        /** The stain that a rub takes from; NONE: there is none that it could. */
        int deepest(boolean withGold) {
            int best = NONE;
            int bestDeep = 0;
            for (int stain = 0; stain < STAINS; stain++) {
                if (deep[stain] > bestDeep && (stain != GOLD || withGold)) {
                    best = stain;
                    bestDeep = deep[stain];
                }
            }
            return best;
        }

        /** Hours on a stone till it is clean, were it of this kind. With soap enough, no rub of a stained cloud is in vain. */
        int hoursAs(Kind as, int hands) {
            int rubs = as.rubs(hands);
            if (where == SENT || where == GONE || rubs < 1) {
                return NONE;
            }
            int hours = (allDeep() + rubs - 1) / rubs;
            boolean isLeft = size - hours * as.shrinks() > 0;
            return hours <= HOURS_TAKEN && isLeft ? hours : NONE;
        }
    }

    /** The laundry at one hour. What is told is a day too: the one at which all begins. */
    private static final class Day {
        private final Cloud[] clouds;
        private int cloudCount;
        private final int[] hands;
        private final int[] has;
        private int washerCount;
        private final int[][] water;
        private int soap;
        private int eye;
        private int hour;

        Day(Kind kind) {
            clouds = new Cloud[CLOUDS];
            for (int i = 0; i < CLOUDS; i++) {
                clouds[i] = new Cloud(kind);
            }
            hands = new int[WASHERS];
            has = new int[WASHERS];
            Arrays.fill(has, NONE);
            water = new int[MILES][STAINS];
            eye = FIRST_EYE;
        }

        void copyFrom(Day other) {
            cloudCount = other.cloudCount;
            for (int i = 0; i < cloudCount && i < CLOUDS; i++) {
                clouds[i].copyFrom(other.clouds[i]);
            }
            washerCount = other.washerCount;
            System.arraycopy(other.hands, 0, hands, 0, WASHERS);
            System.arraycopy(other.has, 0, has, 0, WASHERS);
            for (int mile = 0; mile < MILES; mile++) {
                System.arraycopy(other.water[mile], 0, water[mile], 0, STAINS);
            }
            soap = other.soap;
            eye = other.eye;
            hour = other.hour;
        }

        /** As at first, for a day that is told: nothing has been done in it. */
        void untell() {
            cloudCount = 0;
            washerCount = 0;
            soap = 0;
            eye = FIRST_EYE;
        }

        void addCloud(Kind kind, int size, int due) {
            if (cloudCount < CLOUDS) {
                clouds[cloudCount].begin(kind, size, due);
                cloudCount++;
            }
        }

        void addWasher(int newHands) {
            if (washerCount < WASHERS) {
                hands[washerCount] = newHands;
                washerCount++;
            }
        }

        Cloud cloudAt(int number) {
            return number < 0 || number >= cloudCount || number >= CLOUDS ? null : clouds[number];
        }

        boolean isWasher(int number) {
            return number >= 0 && number < washerCount && number < WASHERS;
        }

        int washerOf(int cloud) {
            for (int i = 0; i < washerCount && i < WASHERS; i++) {
                if (has[i] == cloud) {
                    return i;
                }
            }
            return NONE;
        }

        int cloudsThatAre(int where) {
            int bits = 0;
            for (int i = 0; i < cloudCount && i < CLOUDS; i++) {
                if (clouds[i].where == where) {
                    bits |= 1 << i;
                }
            }
            return bits;
        }

        int allWater() {
            int all = 0;
            for (int mile = 0; mile < MILES; mile++) {
                for (int stain = 0; stain < STAINS; stain++) {
                    all += water[mile][stain];
                }
            }
            return all;
        }

        int readAt(int mile) {
            int bits = 0;
            if (mile >= 0 && mile < MILES) {
                for (int stain = 0; stain < STAINS; stain++) {
                    if (water[mile][stain] >= eye) {
                        bits |= 1 << stain;
                    }
                }
            }
            return bits;
        }

        void passHour() {
            flow();
            for (int i = 0; i < washerCount && i < WASHERS; i++) {
                rubStone(i);
            }
            for (int i = 0; i < cloudCount && i < CLOUDS; i++) {
                if (clouds[i].where == HUNG) {
                    clouds[i].hung++;
                }
            }
            hour++;
        }

        private void flow() {
            for (int stain = 0; stain < STAINS; stain++) {
                for (int mile = MILES - 1; mile > 0; mile--) {
                    water[mile][stain] = water[mile - 1][stain] / 2;
                }
                water[0][stain] = 0;
            }
        }

        private void rubStone(int washer) {
            Cloud one = isWasher(washer) ? cloudAt(has[washer]) : null;
            if (one == null) {
                return;
            }
            int times = one.kind.rubs(hands[washer]);
            for (int i = 0; i < times; i++) {
                rubOnce(one);
            }
            one.size = Math.max(0, one.size - one.kind.shrinks());
            if (one.size == 0) {
                one.where = GONE;
                has[washer] = NONE;
            }
        }

        private void rubOnce(Cloud one) {
            int stain = one.deepest(soap > 0);
            if (stain < 0 || stain >= STAINS) {
                return;
            }
            one.deep[stain]--;
            water[0][stain] += 64;
            if (stain == GOLD) {
                soap--;
            }
        }
    }

    /** The row of letters that is being written. */
    private static final class Text {
        private final char[] letters;
        private int length;

        Text() {
            letters = new char[LETTERS];
        }

        boolean add(char letter) {
            if (length < 0 || length >= LETTERS) {
                return false;
            }
            letters[length] = letter;
            length++;
            return true;
        }

        void copyFrom(Text other) {
            length = other.length;
            System.arraycopy(other.letters, 0, letters, 0, LETTERS);
        }

        /** The letter at a place; 0 where there is none: no clause holds it. */
        char at(int place) {
            return place < 0 || place >= length || place >= LETTERS ? 0 : letters[place];
        }
    }

    /** Reads a text token by token, and does its clauses on a draft, which is thrown away when there is a fault. */
    private static final class Reader {
        private static final int LETTER = 1, DIGIT = 2, OTHER = 3;

        private final Text text;
        private final Day draft;
        private final Kind[] sorts;
        private int start;
        private int end;
        private int clauses;

        Reader(Text text, Day draft, Kind[] sorts) {
            this.text = text;
            this.draft = draft;
            this.sorts = sorts;
        }

        /** The place of the first fault; NONE. */
        int read(Day told) {
            draft.copyFrom(told);
            end = 0;
            step();
            for (clauses = 1; clauses <= CLAUSES; clauses++) {
                if (!readsClause()) {
                    return start;
                }
                if (start >= text.length) {
                    return NONE;
                }
                // Behind the last clause that may be, no ; can stand: nothing could follow it.
                if (text.at(start) != ';' || clauses == CLAUSES) {
                    return start;
                }
                step();
            }
            return start;
        }

        /** On to the next token; at the end it is an empty one. */
        private void step() {
            start = end;
            while (start < text.length && text.at(start) == ' ') {
                start++;
            }
            end = start;
            if (start >= text.length) {
                return;
            }
            int sort = sortOf(text.at(start));
            end++;
            while (end < text.length && sort != OTHER && sortOf(text.at(end)) == sort) {
                end++;
            }
        }

        private static int sortOf(char letter) {
            if (letter >= 'a' && letter <= 'z') {
                return LETTER;
            }
            return letter >= '0' && letter <= '9' ? DIGIT : OTHER;
        }

        private boolean isWord(String word) {
            if (end - start != word.length()) {
                return false;
            }
            for (int i = 0; i < word.length(); i++) {
                if (text.at(start + i) != word.charAt(i)) {
                    return false;
                }
            }
            return true;
        }

        /** The number that stands here, and on to the next token; NONE, and no step, if it cannot stand here. */
        private int number(int least, int most) {
            int digits = end - start;
            if (digits < 1 || digits > 2 || sortOf(text.at(start)) != DIGIT) {
                return NONE;
            }
            int value = 0;
            for (int place = start; place < end; place++) {
                value = 10 * value + text.at(place) - '0';
            }
            if (value < least || value > most) {
                return NONE;
            }
            step();
            return value;
        }

        private boolean readsClause() {
            if (isWord("summer")) {
                draft.untell();
                step();
                return true;
            }
            if (isWord("stain")) {
                return readsStain();
            }
            if (isWord("washer")) {
                return readsWasher();
            }
            if (isWord("soap")) {
                return readsSoap();
            }
            if (isWord("eye")) {
                return readsEye();
            }
            for (int i = 0; i < sorts.length; i++) {
                if (isWord(sorts[i].word())) {
                    return readsCloud(sorts[i]);
                }
            }
            return false;
        }

        private boolean readsCloud(Kind kind) {
            if (draft.cloudCount >= CLOUDS) {
                return false;
            }
            step();
            int size = number(1, MOST);
            if (size == NONE) {
                return false;
            }
            int due = number(0, MOST);
            if (due == NONE) {
                return false;
            }
            draft.addCloud(kind, size, due);
            return true;
        }

        private boolean readsStain() {
            step();
            Cloud one = draft.cloudAt(number(0, draft.cloudCount - 1));
            if (one == null) {
                return false;
            }
            int stain = number(0, STAINS - 1);
            if (stain < 0 || stain >= STAINS) {
                return false;
            }
            int newDeep = number(0, DEEPEST);
            if (newDeep == NONE) {
                return false;
            }
            one.deep[stain] = newDeep;
            return true;
        }

        private boolean readsWasher() {
            if (draft.washerCount >= WASHERS) {
                return false;
            }
            step();
            int newHands = number(1, HANDS);
            if (newHands == NONE) {
                return false;
            }
            draft.addWasher(newHands);
            return true;
        }

        private boolean readsSoap() {
            step();
            int newSoap = number(0, MOST);
            if (newSoap == NONE) {
                return false;
            }
            draft.soap = newSoap;
            return true;
        }

        private boolean readsEye() {
            step();
            int newEye = number(1, MOST);
            if (newEye == NONE) {
                return false;
            }
            draft.eye = newEye;
            return true;
        }
    }

    /** Who washes what. Ways are tried in the order in which the document prefers them, so the first of the best stays. */
    private static final class Plan {
        private final Day day;
        private final int[] byDue;
        private final int[] sets;
        private final int[] way;
        private final int[] best;
        private final int[][] hours;
        private int most;

        Plan(Day day) {
            this.day = day;
            byDue = new int[CLOUDS];
            sets = new int[WASHERS];
            way = new int[CLOUDS];
            best = new int[CLOUDS];
            hours = new int[WASHERS][CLOUDS];
        }

        int washerFor(int cloud) {
            return cloud < 0 || cloud >= CLOUDS ? NONE : best[cloud];
        }

        void make() {
            most = NONE;
            Arrays.fill(sets, 0);
            Arrays.fill(way, NONE);
            Arrays.fill(best, NONE);
            sortByDue();
            for (int w = 0; w < day.washerCount && w < WASHERS; w++) {
                for (int c = 0; c < day.cloudCount && c < CLOUDS; c++) {
                    hours[w][c] = day.clouds[c].hoursAs(day.clouds[c].kind, day.hands[w]);
                }
            }
            share(0, 0);
        }

        private void sortByDue() {
            for (int i = 0; i < day.cloudCount && i < CLOUDS; i++) {
                int place = i;
                while (place > 0 && dueOf(byDue[place - 1]) > dueOf(i)) {
                    byDue[place] = byDue[place - 1];
                    place--;
                }
                byDue[place] = i;
            }
        }

        private int dueOf(int cloud) {
            Cloud one = day.cloudAt(cloud);
            return one == null ? NONE : one.due;
        }

        private int hoursOf(int w, int cloud) {
            return w < 0 || w >= WASHERS || cloud < 0 || cloud >= CLOUDS ? NONE : hours[w][cloud];
        }

        private boolean isHers(int w, int cloud) {
            return w >= 0 && w < WASHERS && (sets[w] >> cloud & 1) == 1;
        }

        /** Tries all ways for this cloud and those behind it; the clouds ahead of it are shared out already. */
        private void share(int cloud, int washed) {
            if (cloud < 0 || cloud >= day.cloudCount || cloud >= CLOUDS) {
                if (washed > most) {
                    most = washed;
                    System.arraycopy(way, 0, best, 0, CLOUDS);
                }
                return;
            }
            if (washed + day.cloudCount - cloud <= most) {
                return;
            }
            boolean inHeap = day.clouds[cloud].where == HEAP;
            for (int w = 0; inHeap && w < day.washerCount && w < WASHERS; w++) {
                sets[w] |= 1 << cloud;
                if (isInTime(w)) {
                    way[cloud] = w;
                    share(cloud + 1, washed + 1);
                }
                sets[w] &= ~(1 << cloud);
            }
            way[cloud] = NONE;
            share(cloud + 1, washed);
        }

        /** Whether she can have all hers clean in time in some order: if in any, then in the order in which they are due. */
        private boolean isInTime(int w) {
            int now = day.hour;
            for (int i = 0; i < day.cloudCount && i < CLOUDS; i++) {
                int c = byDue[i];
                if (isHers(w, c)) {
                    int taken = hoursOf(w, c);
                    now += taken;
                    if (taken == NONE || now > dueOf(c)) {
                        return false;
                    }
                }
            }
            return true;
        }
    }

    /** A line of pegs; it is used again when it is made anew. */
    private static final class Line {
        private boolean there;
        private int sort;
        private int pegs;
        private final int[] things;
        private final int[] values;

        Line() {
            things = new int[PEGS];
            values = new int[PEGS];
        }

        void stretch(int newSort, int newPegs) {
            there = true;
            sort = newSort;
            pegs = newPegs;
            Arrays.fill(things, NOTHING);
        }

        boolean hasPegs(int from, int n) {
            return from >= 0 && n >= 0 && from <= Math.min(pegs, PEGS) - n;
        }

        boolean mayHold(int thing) {
            if (thing == A_CLOUD) {
                return sort != NOTES_ALONE;
            }
            return thing != A_NOTE || sort != CLOUDS_ALONE;
        }

        void put(int i, int thing, int value) {
            if (hasPegs(i, 1)) {
                things[i] = thing;
                values[i] = value;
            }
        }

        void take(Line other, int from, int n) {
            if (other.hasPegs(from, n)) {
                System.arraycopy(other.things, from, things, 0, n);
                System.arraycopy(other.values, from, values, 0, n);
            }
        }

        int heldPegs() {
            int held = 0;
            for (int i = 0; i < pegs && i < PEGS; i++) {
                held += things[i] == NOTHING ? 0 : 1;
            }
            return held;
        }
    }
}
