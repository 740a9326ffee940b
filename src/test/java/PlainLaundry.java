import java.math.BigInteger;
import java.util.ArrayDeque;
import java.util.ArrayList;
import java.util.Deque;
import java.util.HashMap;
import java.util.List;
import java.util.Map;
import java.util.regex.Matcher;
import java.util.regex.Pattern;

/**
 * The document once more, as slow and plain as can be: whole states are copied, all ways and all orders are tried,
 * hours are lived through one by one. ModelTest runs it beside the class. The names are the class's.
 */
public final class PlainLaundry {
    static final int NONE = -1;
    private static final int UNKNOWN = -2, OUTSIDE = -3, NOT = -4, FULL = -5, NULL = -11, INDEX = -12, STORE = -13, CAST = -14,
        EMPTY = -15, SIZE = -16;
    private static final List<String> KINDS = List.of("white", "thunder", "fog", "bride");
    private static final Pattern TOKEN = Pattern.compile("[a-z]+|[0-9]+|[^ ]", Pattern.DOTALL);

    private static final class Cloud {
        String kind;
        int size;
        int due;
        String where = "heap";
        int hung;
        int[] deep = new int[6];

        Cloud copy() {
            Cloud c = new Cloud();
            c.kind = kind;
            c.size = size;
            c.due = due;
            c.where = where;
            c.hung = hung;
            c.deep = deep.clone();
            return c;
        }

        int total() {
            int t = 0;
            for (int d : deep) {
                t += d;
            }
            return t;
        }
    }

    private static final class State {
        List<Cloud> clouds = new ArrayList<>();
        List<Integer> hands = new ArrayList<>();
        Map<Integer, Integer> has = new HashMap<>();
        int[][] water = new int[7][6];
        int soap;
        int eye = 8;
        int hour;

        State copy() {
            State s = new State();
            for (Cloud c : clouds) {
                s.clouds.add(c.copy());
            }
            s.hands.addAll(hands);
            s.has.putAll(has);
            for (int m = 0; m < 7; m++) {
                s.water[m] = water[m].clone();
            }
            s.soap = soap;
            s.eye = eye;
            s.hour = hour;
            return s;
        }

        void live() {
            int[][] next = new int[7][6];
            for (int m = 1; m < 7; m++) {
                for (int k = 0; k < 6; k++) {
                    next[m][k] = water[m - 1][k] / 2;
                }
            }
            water = next;
            for (int w = 0; w < hands.size(); w++) {
                if (has.containsKey(w)) {
                    Cloud c = clouds.get(has.get(w));
                    for (int i = 0; i < rubs(c.kind, hands.get(w)); i++) {
                        rub(c);
                    }
                    c.size -= shrink(c.kind);
                    if (c.size <= 0) {
                        c.size = 0;
                        c.where = "gone";
                        has.remove(w);
                    }
                }
            }
            for (Cloud c : clouds) {
                if (c.where.equals("hung")) {
                    c.hung++;
                }
            }
            hour++;
        }

        private void rub(Cloud c) {
            for (int depth = 9; depth >= 1; depth--) {
                for (int k = 0; k < 6; k++) {
                    if (c.deep[k] == depth && (k != 5 || soap > 0)) {
                        c.deep[k]--;
                        water[0][k] += 64;
                        soap -= k == 5 ? 1 : 0;
                        return;
                    }
                }
            }
        }

        int read(int mile) {
            int bits = 0;
            for (int k = 0; k < 6; k++) {
                bits += water[mile][k] >= eye ? 1 << k : 0;
            }
            return bits;
        }
    }

    private static int rubs(String kind, int hands) {
        switch (kind) {
            case "thunder": return hands == 1 ? 1 : hands - 1;
            case "bride": return 1;
            default: return hands;
        }
    }

    private static int shrink(String kind) {
        return kind.equals("bride") ? 0 : kind.equals("fog") ? 2 : 1;
    }

    private static int drying(String kind) {
        return Map.of("white", 2, "thunder", 3, "fog", 1, "bride", 4).get(kind);
    }

    private String text = "";
    private State told = new State();
    private State now = new State();
    private Deque<State> past = new ArrayDeque<>();
    private final Map<Integer, State> kept = new HashMap<>();
    private final Map<Integer, String> keptText = new HashMap<>();
    private final List<int[]> seen = new ArrayList<>();
    private final Map<Integer, Object[]> lines = new HashMap<>();
    private final Map<Integer, Integer> lineSorts = new HashMap<>();

    private State result;
    private int clauses;

    public int write(int letter) {
        if (letter < 0 || letter > 255) {
            return OUTSIDE;
        }
        if (text.length() == 200) {
            return FULL;
        }
        text += (char) letter;
        return text.length();
    }

    public int erase() {
        int had = text.length();
        text = "";
        return had;
    }

    /** Each clause as a row of bounds for its numbers; the tokens are matched against it. */
    public int fault() {
        List<String> tokens = new ArrayList<>();
        List<Integer> places = new ArrayList<>();
        Matcher m = TOKEN.matcher(text);
        while (m.find()) {
            tokens.add(m.group());
            places.add(m.start());
        }
        places.add(text.length());
        result = told.copy();
        clauses = 0;
        int t = 0;
        while (true) {
            String word = t < tokens.size() ? tokens.get(t) : "";
            int[] bounds = bounds(word);
            if (bounds == null) {
                return places.get(t);
            }
            t++;
            int[] numbers = new int[bounds.length / 2];
            for (int i = 0; i < numbers.length; i++) {
                int high = word.equals("stain") && i == 0 ? result.clouds.size() - 1 : bounds[2 * i + 1];
                if (t >= tokens.size() || !tokens.get(t).matches("[0-9]{1,2}")) {
                    return places.get(t);
                }
                numbers[i] = Integer.parseInt(tokens.get(t));
                if (numbers[i] < bounds[2 * i] || numbers[i] > high) {
                    return places.get(t);
                }
                t++;
            }
            apply(word, numbers);
            clauses++;
            if (t == tokens.size()) {
                return NONE;
            }
            if (!tokens.get(t).equals(";") || clauses == 20) {
                return places.get(t);
            }
            t++;
        }
    }

    private int[] bounds(String word) {
        switch (word) {
            case "summer": return new int[0];
            case "stain": return new int[] {0, 0, 0, 5, 0, 9};
            case "washer": return result.hands.size() == 3 ? null : new int[] {1, 3};
            case "soap": return new int[] {0, 99};
            case "eye": return new int[] {1, 99};
            default: return !KINDS.contains(word) || result.clouds.size() == 6 ? null : new int[] {1, 99, 0, 99};
        }
    }

    private void apply(String word, int[] n) {
        switch (word) {
            case "summer": result = new State(); break;
            case "stain": result.clouds.get(n[0]).deep[n[1]] = n[2]; break;
            case "washer": result.hands.add(n[0]); break;
            case "soap": result.soap = n[0]; break;
            case "eye": result.eye = n[0]; break;
            default:
                Cloud c = new Cloud();
                c.kind = word;
                c.size = n[0];
                c.due = n[1];
                result.clouds.add(c);
        }
    }

    public int summer() {
        if (fault() != NONE) {
            return NOT;
        }
        told = result;
        now = told.copy();
        text = "";
        past.clear();
        kept.clear();
        seen.clear();
        lines.clear();
        return clauses;
    }

    private boolean noCloud(int c) {
        return c < 0 || c >= now.clouds.size();
    }

    private boolean noWasher(int w) {
        return w < 0 || w >= now.hands.size();
    }

    private static boolean not(int n, int low, int high) {
        return n < low || n > high;
    }

    public int cloud(int cloud, int what) {
        if (noCloud(cloud)) {
            return UNKNOWN;
        }
        if (not(what, 0, 7)) {
            return OUTSIDE;
        }
        Cloud c = now.clouds.get(cloud);
        int washer = NONE;
        for (int w : now.has.keySet()) {
            washer = now.has.get(w) == cloud ? w : washer;
        }
        boolean hangs = c.where.equals("hung");
        int[] answers = {KINDS.indexOf(c.kind), c.size, c.due, List.of("heap", "stone", "hung", "sent", "gone").indexOf(c.where), washer,
            hangs ? c.hung : 0, c.total() == 0 ? 1 : 0, hangs && c.hung >= drying(c.kind) ? 1 : 0};
        return answers[what];
    }

    public int deep(int cloud, int stain) {
        return noCloud(cloud) || not(stain, 0, 5) ? UNKNOWN : now.clouds.get(cloud).deep[stain];
    }

    public int washer(int washer, int what) {
        if (noWasher(washer)) {
            return UNKNOWN;
        }
        return what == 0 ? now.hands.get(washer) : what == 1 ? now.has.getOrDefault(washer, NONE) : OUTSIDE;
    }

    public int water(int mile, int stain) {
        return not(mile, 0, 6) || not(stain, 0, 5) ? UNKNOWN : now.water[mile][stain];
    }

    public int as(int cloud, int kind) {
        if (noCloud(cloud)) {
            return UNKNOWN;
        }
        if (not(kind, 0, 4)) {
            return OUTSIDE;
        }
        String own = now.clouds.get(cloud).kind;
        String over = Map.of("white", "01", "thunder", "012", "fog", "013", "bride", "04").get(own);
        return over.indexOf('0' + kind) < 0 ? NOT : rubs(own, 3);
    }

    private void remember() {
        past.addLast(now.copy());
        if (past.size() > 8) {
            past.removeFirst();
        }
    }

    public int wash(int washer, int cloud) {
        if (noWasher(washer) || noCloud(cloud)) {
            return UNKNOWN;
        }
        Cloud c = now.clouds.get(cloud);
        if (!c.where.equals("heap") || now.has.containsKey(washer)) {
            return NOT;
        }
        remember();
        c.where = "stone";
        now.has.put(washer, cloud);
        return c.total();
    }

    public int hang(int washer) {
        if (noWasher(washer)) {
            return UNKNOWN;
        }
        if (!now.has.containsKey(washer)) {
            return NOT;
        }
        remember();
        int cloud = now.has.remove(washer);
        now.clouds.get(cloud).where = "hung";
        now.clouds.get(cloud).hung = 0;
        return cloud;
    }

    public int again(int cloud) {
        if (noCloud(cloud)) {
            return UNKNOWN;
        }
        Cloud c = now.clouds.get(cloud);
        if (!c.where.equals("hung")) {
            return NOT;
        }
        remember();
        c.where = "heap";
        return c.hung;
    }

    public int send(int cloud) {
        if (noCloud(cloud)) {
            return UNKNOWN;
        }
        if (cloud(cloud, 6) == 0 || cloud(cloud, 7) == 0) {
            return NOT;
        }
        remember();
        now.clouds.get(cloud).where = "sent";
        int late = now.hour - now.clouds.get(cloud).due;
        return late < 0 ? 0 : late;
    }

    public int soap(int n) {
        if (not(n, 1, 20)) {
            return OUTSIDE;
        }
        if (now.soap + n > 99) {
            return FULL;
        }
        remember();
        now.soap += n;
        return now.soap;
    }

    public int hour(int n) {
        if (not(n, 1, 12)) {
            return OUTSIDE;
        }
        if (now.hour + n > 999) {
            return FULL;
        }
        remember();
        for (int i = 0; i < n; i++) {
            now.live();
        }
        return now.hour;
    }

    public int undo() {
        if (past.isEmpty()) {
            return NOT;
        }
        now = past.removeLast();
        return past.size();
    }

    public int keep(int k) {
        if (not(k, 0, 1)) {
            return UNKNOWN;
        }
        kept.put(k, now.copy());
        keptText.put(k, text);
        return now.hour;
    }

    public int back(int k) {
        if (not(k, 0, 1)) {
            return UNKNOWN;
        }
        if (!kept.containsKey(k)) {
            return NOT;
        }
        now = kept.get(k).copy();
        text = keptText.get(k);
        past.clear();
        return now.hour;
    }

    /** Lives through the hours with the cloud alone on a stone. */
    private int takesAs(Cloud cloud, String kind, int hands) {
        if (cloud.where.equals("sent") || cloud.where.equals("gone")) {
            return NONE;
        }
        State s = new State();
        Cloud c = cloud.copy();
        c.kind = kind;
        s.clouds.add(c);
        s.hands.add(hands);
        s.has.put(0, 0);
        s.soap = 1000;
        for (int hours = 0; hours <= 60; hours++) {
            if (c.where.equals("gone")) {
                return NONE;
            }
            if (c.total() == 0) {
                return hours;
            }
            s.live();
        }
        return NONE;
    }

    public int takes(int cloud, int hands) {
        if (noCloud(cloud)) {
            return UNKNOWN;
        }
        if (not(hands, 1, 3)) {
            return OUTSIDE;
        }
        Cloud c = now.clouds.get(cloud);
        return takesAs(c, c.kind, hands);
    }

    public int later(int mile, int n) {
        if (not(mile, 0, 6)) {
            return UNKNOWN;
        }
        if (not(n, 0, 20)) {
            return OUTSIDE;
        }
        State s = now.copy();
        for (int i = 0; i < n; i++) {
            s.live();
        }
        return s.read(mile);
    }

    public int stands(int stains, int n) {
        if (not(stains, 0, 63)) {
            return UNKNOWN;
        }
        if (not(n, 0, 20)) {
            return OUTSIDE;
        }
        for (int few = 0; few <= 7; few++) {
            for (int miles = 0; miles < 128; miles++) {
                if (Integer.bitCount(miles) != few) {
                    continue;
                }
                int read = 0;
                for (int i = 0; i <= n; i++) {
                    for (int m = 0; m < 7; m++) {
                        read |= (miles & 1 << m) != 0 ? later(m, i) : 0;
                    }
                }
                if ((read & stains) == stains) {
                    return miles;
                }
            }
        }
        return NONE;
    }

    private boolean someOrder(List<Integer> left, int washer, int at) {
        if (left.isEmpty()) {
            return true;
        }
        for (int i = 0; i < left.size(); i++) {
            int hours = takes(left.get(i), now.hands.get(washer));
            if (hours != NONE && at + hours <= now.clouds.get(left.get(i)).due) {
                List<Integer> rest = new ArrayList<>(left);
                rest.remove(i);
                if (someOrder(rest, washer, at + hours)) {
                    return true;
                }
            }
        }
        return false;
    }

    private boolean works(int[] way) {
        for (int c = 0; c < way.length; c++) {
            if (way[c] < now.hands.size() && !now.clouds.get(c).where.equals("heap")) {
                return false;
            }
        }
        for (int w = 0; w < now.hands.size(); w++) {
            List<Integer> hers = new ArrayList<>();
            for (int c = 0; c < way.length; c++) {
                if (way[c] == w) {
                    hers.add(c);
                }
            }
            if (!someOrder(hers, w, now.hour)) {
                return false;
            }
        }
        return true;
    }

    /** All ways in the order of their rows, the left ones told by a number above all washers'. */
    public int plan(int cloud) {
        if (cloud != NONE && noCloud(cloud)) {
            return UNKNOWN;
        }
        int clouds = now.clouds.size();
        int base = now.hands.size() + 1;
        int best = -1;
        int[] bestWay = null;
        for (int number = 0; number < Math.pow(base, clouds); number++) {
            int[] way = new int[clouds];
            int rest = number;
            int washed = 0;
            for (int c = clouds - 1; c >= 0; c--) {
                way[c] = rest % base;
                rest /= base;
                washed += way[c] < base - 1 ? 1 : 0;
            }
            if (washed > best && works(way)) {
                best = washed;
                bestWay = way;
            }
        }
        return cloud == NONE ? best : bestWay[cloud] == base - 1 ? NONE : bestWay[cloud];
    }

    public int needed(int clouds) {
        if (not(clouds, 0, (1 << now.clouds.size()) - 1)) {
            return UNKNOWN;
        }
        int gold = 0;
        for (int c = 0; c < now.clouds.size(); c++) {
            gold += (clouds >> c) % 2 * now.clouds.get(c).deep[5];
        }
        return gold;
    }

    public int seen(int cloud, int hands, int hours) {
        if (noCloud(cloud)) {
            return UNKNOWN;
        }
        if (not(hands, 1, 3) || not(hours, 0, 60)) {
            return OUTSIDE;
        }
        if (seen.size() == 6) {
            return FULL;
        }
        seen.add(new int[] {cloud, hands, hours});
        return seen.size();
    }

    public int forget() {
        int had = seen.size();
        seen.clear();
        return had;
    }

    public int kinds(int cloud) {
        if (noCloud(cloud)) {
            return UNKNOWN;
        }
        int bits = 0;
        for (int k = 0; k < 4; k++) {
            boolean so = true;
            for (int[] row : seen) {
                int hours = takesAs(now.clouds.get(cloud), KINDS.get(k), row[1]);
                so &= row[0] != cloud || row[2] == (hours == NONE ? 60 : hours);
            }
            bits += so ? 1 << k : 0;
        }
        return bits;
    }

    /** Each of the 2 to the n ways to be struck, one by one. */
    public int lightning(int n, int q, int m, int part) {
        if (not(n, 0, 8) || not(q, 0, 10) || not(m, 0, 9) || not(part, 0, 1)) {
            return OUTSIDE;
        }
        BigInteger above = BigInteger.ZERO;
        for (int way = 0; way < 1 << n; way++) {
            int spared = Integer.bitCount(way);
            if (spared >= m) {
                above = above.add(BigInteger.valueOf(10 - q).pow(spared).multiply(BigInteger.valueOf(q).pow(n - spared)));
            }
        }
        BigInteger below = BigInteger.TEN.pow(n);
        BigInteger common = above.gcd(below);
        return (part == 0 ? above : below).divide(common).intValueExact();
    }

    public int line(int line, int sort, int n) {
        if (not(line, 0, 2)) {
            return UNKNOWN;
        }
        if (not(sort, 0, 2) || n > 16) {
            return OUTSIDE;
        }
        if (n < 0) {
            return SIZE;
        }
        lines.put(line, sort == 0 ? new Object[n] : sort == 1 ? new Integer[n] : new String[n]);
        lineSorts.put(line, sort);
        return n;
    }

    /** A cloud is held as an Integer, a note as a String, nothing as null: the rows' own types say what they hold. */
    public int pin(int line, int i, int what, int v) {
        if (not(line, 0, 2) || (what == 0 && noCloud(v))) {
            return UNKNOWN;
        }
        if (not(what, 0, 2) || (what == 1 && not(v, -999, 999))) {
            return OUTSIDE;
        }
        try {
            lines.get(line)[i] = what == 0 ? (Object) v : what == 1 ? Integer.toString(v) : null;
            return 1;
        } catch (NullPointerException e) {
            return NULL;
        } catch (ArrayIndexOutOfBoundsException e) {
            return INDEX;
        } catch (ArrayStoreException e) {
            return STORE;
        }
    }

    public int peg(int line, int i, int what) {
        if (not(line, 0, 2)) {
            return UNKNOWN;
        }
        if (not(what, 0, 2)) {
            return OUTSIDE;
        }
        try {
            Object held = lines.get(line)[i];
            if (held == null) {
                return EMPTY;
            }
            return what == 0 ? (Integer) held : what == 1 ? Integer.parseInt((String) held) + 5000 : held instanceof Integer ? 1 : 2;
        } catch (NullPointerException e) {
            return NULL;
        } catch (ArrayIndexOutOfBoundsException e) {
            return INDEX;
        } catch (ClassCastException e) {
            return CAST;
        }
    }

    public int move(int from, int i, int to, int j, int n) {
        if (not(from, 0, 2) || not(to, 0, 2)) {
            return UNKNOWN;
        }
        try {
            System.arraycopy(lines.get(from), i, lines.get(to), j, n);
            return n;
        } catch (NullPointerException e) {
            return NULL;
        } catch (IndexOutOfBoundsException e) {
            return INDEX;
        } catch (ArrayStoreException e) {
            return STORE;
        }
    }

    public int drop(int line) {
        if (not(line, 0, 2)) {
            return UNKNOWN;
        }
        Object[] row = lines.remove(line);
        if (row == null) {
            return NULL;
        }
        int held = 0;
        for (Object thing : row) {
            held += thing == null ? 0 : 1;
        }
        return held;
    }

    public int sum(int line) {
        if (not(line, 0, 2)) {
            return UNKNOWN;
        }
        if (!lines.containsKey(line)) {
            return NULL;
        }
        int all = 100000;
        for (Object thing : lines.get(line)) {
            if (thing instanceof Integer) {
                all += now.clouds.get((Integer) thing).total();
            } else if (thing instanceof String) {
                all += Integer.parseInt((String) thing);
            }
        }
        return all;
    }

    private int bits(String where) {
        int bits = 0;
        for (int c = 0; c < now.clouds.size(); c++) {
            bits += now.clouds.get(c).where.equals(where) ? 1 << c : 0;
        }
        return bits;
    }

    public int count(int what) {
        if (not(what, 0, 13)) {
            return OUTSIDE;
        }
        int flowing = 0;
        for (int[] mile : now.water) {
            for (int amount : mile) {
                flowing += amount;
            }
        }
        int[] answers = {now.clouds.size(), now.hands.size(), now.soap, now.hour, bits("heap"), bits("hung"), bits("sent"), bits("gone"),
            seen.size(), lines.size(), past.size(), text.length(), now.eye, flowing};
        return answers[what];
    }
}
