import java.math.BigInteger;
import java.util.ArrayList;
import java.util.List;
import java.util.Random;
import java.util.function.Consumer;
import java.util.function.ToLongFunction;
import java.util.regex.Matcher;
import java.util.regex.Pattern;

/** Long mixed runs, each call beside a second model that is written from the document word by word, without haste. */
public final class ModelTest {
    private static final int BEYOND = -1000001, FULL = -1000002, KIND = -1000003, NONE = -1000004, STATE = -1000005,
        MISSING = -1000006, SIZE = -1000007;
    private static final String[] KINDS = {"jumper", "prop", "lock", "tower", "giant", "rookie", "flanker"};

    static final class Man {
        String kind;
        int tall = 50, tired, won, lost;

        Man twin() {
            Man m = new Man();
            m.kind = kind;
            m.tall = tall;
            m.tired = tired;
            m.won = won;
            m.lost = lost;
            return m;
        }
    }

    static final class World {
        List<Man> men = new ArrayList<>();
        Integer[] stands = new Integer[7];
        int[] theirs = {40, 40, 40, 40, 40, 40, 40}, reads = new int[7], list = {0, 11, 22, 33, 44, 55};
        Integer[] spots = new Integer[10];
        int wind, wet, code, thrown, metres, z = 1;

        World twin() {
            World w = new World();
            for (Man m : men) {
                w.men.add(m.twin());
            }
            w.stands = stands.clone();
            w.theirs = theirs.clone();
            w.reads = reads.clone();
            w.list = list.clone();
            w.spots = spots.clone();
            w.wind = wind;
            w.wet = wet;
            w.code = code;
            w.thrown = thrown;
            w.metres = metres;
            w.z = z;
            return w;
        }

        int high(Man m, String as) {
            switch (as) {
                case "prop": return high(m, "jumper") / 2;
                case "flanker": return high(m, "prop") + 30 - wet;
                case "lock": return high(m, "jumper") + 10;
                case "tower": return high(m, "lock") + 5 - wind;
                case "giant": return high(m, "tower") + (m.tired < 20 ? 10 : 0);
                case "rookie": return thrown % 2 != 0 ? 0 : high(m, "jumper");
                default: return Math.max(m.tall - m.tired / 4, 0);
            }
        }

        int gain(String as, int p) {
            switch (as) {
                case "prop": return 1;
                case "flanker": return gain("prop", p) + 2 * p;
                case "lock": return gain("jumper", p) + 2;
                case "tower": return gain("lock", p);
                case "giant": return Math.max(gain("tower", p) - wind, 0);
                case "rookie": return gain("jumper", p);
                default: return p;
            }
        }

        int tires(String as) {
            switch (as) {
                case "prop": return tires("jumper") + 3;
                case "flanker": return tires("prop") - 6;
                case "lock": return tires("jumper") - 1;
                case "tower": return tires("lock");
                case "giant": return 2 * tires("tower");
                case "rookie": return tires("jumper") + wet;
                default: return 5;
            }
        }

        boolean wins(int p) {
            return stands[p] != null && high(men.get(stands[p]), men.get(stands[p]).kind) > theirs[p] + reads[p] / 2;
        }

        World after(int n) {
            World w = twin();
            for (int i = 0; i < n; i++) {
                w.one();
            }
            return w;
        }

        void one() {
            int p = told(list[thrown % 6], code);
            Man to = stands[p] == null ? null : men.get(stands[p]);
            if (to == null) {
                metres -= 5;
            } else if (wins(p)) {
                metres += gain(to.kind, p);
                to.won++;
            } else {
                metres -= 3;
                to.lost++;
            }
            metres = Math.min(99999, Math.max(0, metres));
            for (Man m : men) {
                m.tired = m == to ? Math.min(99, m.tired + tires(m.kind)) : Math.max(0, m.tired - 2);
                m.won = Math.min(9999, m.won);
                m.lost = Math.min(9999, m.lost);
            }
            for (int q = 0; q < 7; q++) {
                reads[q] = Math.max(0, Math.min(99, reads[q] + (q == p ? 6 : -1)));
            }
            thrown = Math.min(99999, thrown + 1);
        }

        int winning() {
            int set = 0;
            for (int p = 0; p < 7; p++) {
                set += wins(p) ? 1 << p : 0;
            }
            return set;
        }

        int whereIs(int man) {
            for (int p = 0; p < 7; p++) {
                if (stands[p] != null && stands[p] == man) {
                    return p;
                }
            }
            return -1;
        }
    }

    static int told(int call, int code) {
        String s = String.format("%03d", call);
        int a = s.charAt(0) - '0', b = s.charAt(1) - '0', c = s.charAt(2) - '0';
        if (code == 3) {
            return c % 2 != 0 ? 0 : b % 2 != 0 ? 3 : 6;
        }
        int[] by = {c, a + b + c, a, 0, Integer.toBinaryString(call).replace("0", "").length()};
        return by[code] % 7;
    }

    static boolean out(int v, int from, int to) {
        return v < from || v > to;
    }

    static final class Model {
        World w = new World();
        World image = null;
        String tape = "";
        int[][] sheets = new int[4][];
        int[] bits = new int[4];
        int[] status = new int[7];

        private long find(int f) {
            status[-1000001 - f]++;
            return f;
        }

        private boolean noMan(int j) {
            return out(j, 0, w.men.size() - 1);
        }

        private long best(int from, int to, Consumer<Object[]> change, ToLongFunction<World> worth, int n) {
            long most = Long.MIN_VALUE;
            int at = -1;
            for (int v = from; v <= to; v++) {
                World t = w.twin();
                change.accept(new Object[] {t, v});
                long got = worth.applyAsLong(t.after(n));
                if (got > most) {
                    most = got;
                    at = v;
                }
            }
            return at;
        }

        private List<Integer> fitting(int s, int to, Consumer<Object[]> change) {
            List<Integer> all = new ArrayList<>();
            for (int v = 0; v <= to; v++) {
                World t = w.twin();
                change.accept(new Object[] {t, v});
                boolean good = true;
                for (int i = 0; i < sheets[s].length; i++) {
                    good &= sheets[s][i] == -1 || t.after(i).metres == sheets[s][i];
                }
                if (good) {
                    all.add(v);
                }
            }
            return all;
        }

        private static long set(List<Integer> all) {
            long bits = 0;
            for (int v : all) {
                bits |= 1 << v;
            }
            return bits;
        }

        private int draw() {
            w.z = w.z * 1103515245 + 12345;
            return w.z >>> 8;
        }

        private long sheetLack(int s) {
            return out(s, 0, 3) ? BEYOND : sheets[s] == null ? MISSING : 0;
        }

        private int manValue(World v, int j, int what) {
            Man m = v.men.get(j);
            int kind = List.of(KINDS).indexOf(m.kind);
            return new int[] {kind, m.tall, m.tired, m.won, m.lost, v.high(m, m.kind), v.tires(m.kind), v.whereIs(j)}[what];
        }

        long answer(String name, int[] a) {
            switch (name) {
                case "stand": case "place": case "theirs": case "set": case "call": case "listed": case "says":
                case "jumper": case "of": case "change": case "gains": return lineActs(name, a);
                case "go": case "now": case "ahead": case "metres": case "when": case "known": return throwActs(name, a);
                case "codeFor": case "callFor": case "standFor": case "kindFor": case "tallFor": case "cover":
                    return planActs(name, a);
                case "codes": case "fits": case "tall": case "kinds": return endActs(name, a);
                case "sheet": case "write": case "copy": case "load": case "judge": return sheetActs(name, a);
                default: return otherActs(name, a);
            }
        }

        private long lineActs(String name, int[] a) {
            switch (name) {
                case "stand": {
                    if (out(a[0], 0, 6) || (a[1] != -1 && noMan(a[1]))) return find(BEYOND);
                    Integer old = w.stands[a[0]];
                    if (a[1] >= 0 && w.whereIs(a[1]) >= 0) w.stands[w.whereIs(a[1])] = null;
                    w.stands[a[0]] = a[1] < 0 ? null : Integer.valueOf(a[1]);
                    return old == null ? -1 : old;
                }
                case "place": {
                    if (out(a[0], 0, 6) || out(a[1], 0, 3)) return find(BEYOND);
                    int who = w.stands[a[0]] == null ? -1 : w.stands[a[0]];
                    return new int[] {who, w.theirs[a[0]], w.reads[a[0]], w.theirs[a[0]] + w.reads[a[0]] / 2}[a[1]];
                }
                case "theirs": {
                    if (out(a[0], 0, 6) || out(a[1], 1, 2) || out(a[2], 0, 99)) return find(BEYOND);
                    int[] r = a[1] == 1 ? w.theirs : w.reads;
                    int old = r[a[0]];
                    r[a[0]] = a[2];
                    return old;
                }
                case "set": {
                    if (out(a[0], 0, 2) || out(a[1], 0, a[0] == 2 ? 4 : 9)) return find(BEYOND);
                    int old = new int[] {w.wind, w.wet, w.code}[a[0]];
                    if (a[0] == 0) w.wind = a[1];
                    if (a[0] == 1) w.wet = a[1];
                    if (a[0] == 2) w.code = a[1];
                    return old;
                }
                case "call": {
                    if (out(a[0], 0, 5) || out(a[1], 0, 999)) return find(BEYOND);
                    int old = w.list[a[0]];
                    w.list[a[0]] = a[1];
                    return old;
                }
                case "listed": return out(a[0], 0, 5) ? find(BEYOND) : w.list[a[0]];
                case "says": return out(a[0], 0, 999) || out(a[1], 0, 4) ? find(BEYOND) : told(a[0], a[1]);
                case "jumper": {
                    if (out(a[0], 0, 6) || out(a[1], 0, 99)) return find(BEYOND);
                    if (w.men.size() == 8) return find(FULL);
                    Man m = new Man();
                    m.kind = KINDS[a[0]];
                    m.tall = a[1];
                    w.men.add(m);
                    return w.men.size() - 1;
                }
                case "of": return noMan(a[0]) || out(a[1], 0, 7) ? find(BEYOND) : manValue(w, a[0], a[1]);
                case "change": {
                    if (noMan(a[0]) || out(a[1], 0, 4)) return find(BEYOND);
                    if (out(a[2], 0, new int[] {6, 99, 99, 9999, 9999}[a[1]])) return find(BEYOND);
                    int old = manValue(w, a[0], a[1]);
                    Man m = w.men.get(a[0]);
                    if (a[1] == 0) m.kind = KINDS[a[2]];
                    if (a[1] == 1) m.tall = a[2];
                    if (a[1] == 2) m.tired = a[2];
                    if (a[1] == 3) m.won = a[2];
                    if (a[1] == 4) m.lost = a[2];
                    return old;
                }
                default: return noMan(a[0]) || out(a[1], 0, 6) ? find(BEYOND) : w.gain(w.men.get(a[0]).kind, a[1]);
            }
        }

        private int total(int what) {
            int all = 0;
            for (int j = 0; j < w.men.size(); j++) {
                all += manValue(w, j, what);
            }
            return all;
        }

        private long throwActs(String name, int[] a) {
            switch (name) {
                case "go":
                    if (out(a[0], 1, 60)) return find(BEYOND);
                    if (w.thrown + a[0] > 99999) return find(STATE);
                    w = w.after(a[0]);
                    return w.metres;
                case "now": {
                    if (out(a[0], 0, 6)) return find(BEYOND);
                    int says = 0;
                    for (int c : w.list) says |= 1 << told(c, w.code);
                    return new int[] {w.thrown, w.metres, total(3), total(4), told(w.list[w.thrown % 6], w.code),
                        w.winning(), says}[a[0]];
                }
                case "ahead":
                    if (noMan(a[0]) || out(a[1], 2, 5) || out(a[2], 0, 100)) return find(BEYOND);
                    return manValue(w.after(a[2]), a[0], a[1]);
                case "metres": return out(a[0], 0, 100) ? find(BEYOND) : w.after(a[0]).metres;
                case "when":
                    if (noMan(a[0]) || out(a[1], 0, 9999)) return find(BEYOND);
                    for (int n = 0; n <= 100; n++) if (w.after(n).men.get(a[0]).won >= a[1]) return n;
                    return find(NONE);
                default:
                    for (int n = 0; n <= 100; n++) if (w.after(n).winning() == 0) return n;
                    return find(NONE);
            }
        }

        private long planActs(String name, int[] a) {
            switch (name) {
                case "codeFor":
                    if (out(a[0], 0, 40)) return find(BEYOND);
                    return best(0, 4, o -> ((World) o[0]).code = (Integer) o[1], t -> t.metres, a[0]);
                case "callFor":
                    if (out(a[0], 0, 10)) return find(BEYOND);
                    return best(0, 999, o -> ((World) o[0]).list[w.thrown % 6] = (Integer) o[1], t -> t.metres, a[0]);
                case "standFor":
                    if (noMan(a[0]) || out(a[1], 0, 40)) return find(BEYOND);
                    return best(0, 6, o -> {
                        World t = (World) o[0];
                        int p = (Integer) o[1], from = t.whereIs(a[0]);
                        Integer other = t.stands[p];
                        if (from != p) {
                            t.stands[p] = a[0];
                            if (from >= 0) t.stands[from] = other;
                        }
                    }, t -> t.metres, a[1]);
                case "kindFor":
                    if (noMan(a[0]) || out(a[1], 0, 40)) return find(BEYOND);
                    return best(0, 6, o -> ((World) o[0]).men.get(a[0]).kind = KINDS[(Integer) o[1]], t -> t.men.get(a[0]).won, a[1]);
                case "tallFor":
                    if (noMan(a[0]) || out(a[1], 0, 9999) || out(a[2], 0, 40)) return find(BEYOND);
                    for (int tall = 0; tall < 100; tall++) {
                        World t = w.twin();
                        t.men.get(a[0]).tall = tall;
                        if (t.after(a[2]).men.get(a[0]).won >= a[1]) return tall;
                    }
                    return find(NONE);
                default: {
                    int all = 0, found = 63;
                    for (int c : w.list) all |= 1 << told(c, w.code);
                    for (int set = 63; set >= 0; set--) {
                        int says = 0;
                        for (int i = 0; i < 6; i++) if ((set >> i & 1) == 1) says |= 1 << told(w.list[i], w.code);
                        if (says == all && Integer.bitCount(set) <= Integer.bitCount(found)) found = set;
                    }
                    return found;
                }
            }
        }

        private long endActs(String name, int[] a) {
            long lack = sheetLack(a[0]);
            if (lack != 0) return find((int) lack);
            if (name.equals("codes")) return set(fitting(a[0], 4, o -> ((World) o[0]).code = (Integer) o[1]));
            if (noMan(a[1])) return find(BEYOND);
            if (name.equals("kinds")) {
                return set(fitting(a[0], 6, o -> ((World) o[0]).men.get(a[1]).kind = KINDS[(Integer) o[1]]));
            }
            List<Integer> talls = fitting(a[0], 99, o -> ((World) o[0]).men.get(a[1]).tall = (Integer) o[1]);
            if (name.equals("fits")) return talls.size();
            return talls.isEmpty() ? find(NONE) : talls.get(0);
        }

        private long sheetActs(String name, int[] a) {
            if (name.equals("sheet")) {
                if (out(a[0], 0, 3) || !List.of(0, 8, 16, 32).contains(a[1])) return find(BEYOND);
                if (a[2] < 0) return find(SIZE);
                if (a[2] > 40) return find(BEYOND);
                sheets[a[0]] = a[1] == 0 ? null : new int[a[2]];
                bits[a[0]] = a[1];
                return a[1] == 0 ? 0 : a[2];
            }
            if (name.equals("copy")) {
                if (out(a[0], 0, 3) || out(a[2], 0, 3)) return find(BEYOND);
                if (sheets[a[0]] == null || sheets[a[2]] == null) return find(MISSING);
                if (bits[a[0]] != bits[a[2]]) return find(KIND);
                if (a[1] < 0 || a[3] < 0 || a[4] < 0 || (long) a[1] + a[4] > sheets[a[0]].length
                    || (long) a[3] + a[4] > sheets[a[2]].length) return find(BEYOND);
                int[] was = sheets[a[0]].clone();
                for (int i = 0; i < a[4]; i++) sheets[a[2]][a[3] + i] = was[a[1] + i];
                return a[4];
            }
            long lack = sheetLack(a[0]);
            if (lack != 0) return find((int) lack);
            int[] row = sheets[a[0]];
            if (name.equals("write")) {
                if (out(a[1], 0, row.length - 1)) return find(BEYOND);
                int away = 32 - bits[a[0]];
                row[a[1]] = a[2] << away >> away;
                return 1;
            }
            int i = 0;
            if (name.equals("load")) {
                while (i < row.length && i < 6 && !out(row[i], 0, 999)) {
                    w.list[i] = row[i];
                    i++;
                }
                return i;
            }
            while (i < row.length && i < w.men.size() && row[i] == w.men.get(i).won) i++;
            return i == row.length ? 0 : 1 + i;
        }

        private long odds(int[] a) {
            if (out(a[0], 0, 6) || out(a[1], 0, 6) || out(a[2], 0, 1)) return find(BEYOND);
            long n = 0;
            for (int c = 0; c < 1000; c++) n += told(c, w.code) == a[0] ? 1 : 0;
            BigInteger above = BigInteger.valueOf(n).pow(a[1]), below = BigInteger.valueOf(1000).pow(a[1]);
            BigInteger common = above.gcd(below);
            return (a[2] == 0 ? above : below).divide(common).longValueExact();
        }

        private long otherActs(String name, int[] a) {
            switch (name) {
                case "mix":
                    if (out(a[0], 1, 20)) return find(BEYOND);
                    if (w.thrown + a[0] > 99999) return find(STATE);
                    for (int i = 0; i < a[0]; i++) {
                        w.list[w.thrown % 6] = draw() % 1000;
                        w.wind = draw() % 10;
                        w.one();
                    }
                    return w.metres;
                case "odds": return odds(a);
                case "seed": {
                    int old = w.z;
                    w.z = a[0];
                    return old;
                }
                case "feed":
                    if (out(a[1], 1, 4)) return find(BEYOND);
                    if (tape.length() + a[1] > 120) return find(FULL);
                    for (int i = a[1]; i > 0; i--) tape += (char) (a[0] >>> 8 * (i - 1) & 255);
                    return tape.length();
                case "wipe": {
                    int old = tape.length();
                    tape = "";
                    return old;
                }
                case "text": {
                    World t = w.twin();
                    int got = new Text(tape).read(t);
                    tape = "";
                    if (got > 0) w = t;
                    return got;
                }
                case "hold":
                    if (out(a[0], 0, 9) || (a[1] != -1 && noMan(a[1]))) return find(BEYOND);
                    w.spots[a[0]] = a[1] < 0 ? null : Integer.valueOf(a[1]);
                    return 1;
                case "as": {
                    if (out(a[0], 0, 9) || out(a[1], 0, 6)) return find(BEYOND);
                    if (w.spots[a[0]] == null) return find(MISSING);
                    String[] chains = {"0", "01", "02", "023", "0234", "05", "016"};
                    return chains[manValue(w, w.spots[a[0]], 0)].contains("" + a[1]) ? w.spots[a[0]] : find(KIND);
                }
                case "image":
                    image = w.twin();
                    return 1;
                case "undo":
                    if (image == null) return find(NONE);
                    w = image.twin();
                    return w.thrown;
                case "tear": {
                    int had = image == null ? 0 : 1;
                    image = null;
                    return had;
                }
                case "count": {
                    if (out(a[0], 0, 7)) return find(BEYOND);
                    int held = 0;
                    for (Integer s : w.spots) held += s == null ? 0 : 1;
                    return new int[] {w.thrown, w.men.size(), w.metres, total(3), total(4), tape.length(), w.z, held}[a[0]];
                }
                default: {
                    if (out(a[0], -1, 6)) return find(BEYOND);
                    int all = 0;
                    for (int i = 0; i < 7; i++) all += a[0] == -1 || a[0] == i ? status[i] : 0;
                    return all;
                }
            }
        }
    }

    /** Splits the whole tape into tokens first, then takes them from the list. */
    static final class Text {
        private final List<String> tokens = new ArrayList<>();
        private final List<Integer> places = new ArrayList<>();
        private final int length;
        private int at = 0;

        Text(String tape) {
            length = tape.length();
            Matcher m = Pattern.compile("[a-z]+|[0-9]+|;|[^ ]", Pattern.DOTALL).matcher(tape);
            while (m.find()) {
                tokens.add(m.group());
                places.add(m.start());
            }
        }

        private String peek() {
            return at < tokens.size() ? tokens.get(at) : "";
        }

        private int number(int most) {
            if (!peek().matches("[0-9]+") || new BigInteger(peek()).compareTo(BigInteger.valueOf(most)) > 0) return -1;
            return Integer.parseInt(tokens.get(at++).replaceFirst("^0+(?=.)", ""));
        }

        private int fault() {
            return -1 - (at < tokens.size() ? places.get(at) : length);
        }

        int read(World t) {
            for (int items = 1; ; items++) {
                if (!item(t)) return fault();
                if (at == tokens.size()) return items;
                if (!peek().equals(";")) return fault();
                at++;
            }
        }

        private boolean item(World t) {
            String word = peek();
            if (List.of(KINDS).contains(word)) return man(t, word);
            if (!List.of("theirs", "call", "code", "wind", "wet").contains(word)) return false;
            at++;
            int[] first = {6, 5, 4, 9, 9};
            int which = List.of("theirs", "call", "code", "wind", "wet").indexOf(word);
            int v = number(first[which]);
            if (v < 0) return false;
            if (which == 2) t.code = v;
            if (which == 3) t.wind = v;
            if (which == 4) t.wet = v;
            if (which > 1) return true;
            int u = number(which == 0 ? 99 : 999);
            if (u < 0) return false;
            (which == 0 ? t.theirs : t.list)[v] = u;
            return true;
        }

        private boolean man(World t, String kind) {
            if (t.men.size() == 8) return false;
            at++;
            Man m = new Man();
            m.kind = kind;
            t.men.add(m);
            if (peek().equals("in")) {
                at++;
                int p = number(6);
                if (p < 0) return false;
                if (t.stands[p] != null) {
                    at--;
                    return false;
                }
                t.stands[p] = t.men.size() - 1;
            }
            if (peek().equals("tall")) {
                at++;
                m.tall = number(99);
                return m.tall >= 0;
            }
            return true;
        }
    }

    private static final String[] PIECES = {"jumper", "prop", "lock", "tower", "giant", "rookie", "flanker", "theirs", "call",
        "code", "wind", "wet", "in", "tall", ";", ";", ";", " ", " ", " ", "0", "1", "2", "3", "4", "5", "6", "9", "10", "47",
        "99", "100", "999", "1000", "007", "x", "ins", ",", "A", "\u00e9"};
    private static final String[] ITEMS = {"K in P tall H", "K in P", "K tall H", "K", "theirs P H", "call L C", "code D",
        "wind W", "wet W", " K  in P tall  H ", "kin P"};

    private static String text(Random r) {
        StringBuilder s = new StringBuilder();
        if (r.nextInt(3) == 0) {
            for (int i = r.nextInt(8); i >= 0; i--) {
                s.append(PIECES[r.nextInt(PIECES.length)]).append(r.nextBoolean() ? " " : "");
            }
            return s.toString();
        }
        for (int i = r.nextInt(5); i >= 0; i--) {
            String item = ITEMS[r.nextInt(r.nextInt(4) == 0 ? ITEMS.length : ITEMS.length - 1)];
            item = item.replace("K", KINDS[r.nextInt(7)]).replace("P", "" + r.nextInt(r.nextInt(5) == 0 ? 9 : 7))
                .replace("H", "" + r.nextInt(102)).replace("L", "" + r.nextInt(7)).replace("C", "" + r.nextInt(1010))
                .replace("D", "" + r.nextInt(6)).replace("W", "" + r.nextInt(11));
            s.append(item).append(i > 0 ? ";" : "");
        }
        return s.toString();
    }

    private static int among(Random r, int most) {
        int way = r.nextInt(40);
        return way == 0 ? -1 : way == 1 ? most + 1 : way == 2 ? r.nextInt() : r.nextInt(most + 1);
    }

    /** What each argument is, by its most: mostly within, at times just outside. */
    private static final Object[][] CALLS = {
        {"stand", 6, 7}, {"stand", 6, 3}, {"stand", 6, 7}, {"place", 6, 3}, {"theirs", 6, 2, 99}, {"set", 2, 9}, {"set", 2, 4}, {"call", 5, 999},
        {"listed", 5}, {"says", 999, 4}, {"jumper", 6, 99}, {"of", 7, 7}, {"of", 3, 7}, {"change", 7, 4, 99}, {"change", 7, 0, 6},
        {"change", 4, 4, 9999}, {"gains", 7, 6}, {"go", 60}, {"go", 5}, {"go", 5}, {"now", 6}, {"ahead", 7, 5, 100}, {"ahead", 4, 5, 9},
        {"metres", 100}, {"metres", 12}, {"when", 7, 20}, {"when", 7, 9999}, {"known"}, {"codeFor", 40}, {"codeFor", 6}, {"callFor", 10}, {"callFor", 2},
        {"standFor", 7, 40}, {"standFor", 4, 8}, {"kindFor", 7, 40}, {"kindFor", 4, 8}, {"tallFor", 7, 9, 40}, {"tallFor", 4, 2, 12},
        {"cover"}, {"codes", 3}, {"fits", 3, 7}, {"tall", 3, 7}, {"kinds", 3, 7}, {"mix", 20}, {"mix", 3}, {"odds", 6, 6, 1}, {"seed", 999999},
        {"feed", 99999999, 4}, {"wipe"}, {"text"}, {"hold", 9, 7}, {"as", 9, 6}, {"sheet", 3, 32, 40}, {"write", 3, 39, 99},
        {"copy", 3, 9, 3, 9, 9}, {"load", 3}, {"judge", 3}, {"image"}, {"undo"}, {"tear"}, {"count", 7}, {"status", 6}};

    private static long real(LineCalls x, String name, int[] a) throws Exception {
        Class<?>[] types = new Class<?>[a.length];
        Object[] values = new Object[a.length];
        for (int i = 0; i < a.length; i++) {
            types[i] = int.class;
            values[i] = a[i];
        }
        return ((Number) LineCalls.class.getMethod(name, types).invoke(x, values)).longValue();
    }

    private static int calls = 0;
    private static int wrong = 0;

    private static void both(LineCalls x, Model m, List<String> told, String name, int... a) throws Exception {
        long got = real(x, name, a);
        long due = m.answer(name, a);
        calls++;
        told.add(name + java.util.Arrays.toString(a) + " = " + due);
        if (got != due && wrong++ < 5) {
            System.out.println(name + java.util.Arrays.toString(a) + " answered " + got + ", due is " + due + " behind "
                + told.subList(Math.max(0, told.size() - 12), told.size()));
        }
    }

    /** A sheet that tells METRES as they will be, with gaps, at times with a wrong one. */
    private static void tellMetres(LineCalls x, Model m, List<String> told, Random r) throws Exception {
        int s = r.nextInt(4);
        int n = r.nextInt(r.nextInt(4) == 0 ? 41 : 6);
        both(x, m, told, "sheet", s, new int[] {8, 16, 32, 16}[r.nextInt(4)], n);
        for (int i = 0; i < n; i++) {
            int v = r.nextInt(3) == 0 ? -1 : m.w.after(i).metres + (r.nextInt(30) == 0 ? 1 : 0);
            both(x, m, told, "write", s, i, v);
        }
        String[] asked = {"codes", "fits", "tall", "kinds"};
        for (String name : asked) {
            if (name.equals("codes")) both(x, m, told, name, s);
            else both(x, m, told, name, s, r.nextInt(4));
        }
    }

    private static void tellWon(LineCalls x, Model m, List<String> told, Random r) throws Exception {
        int s = r.nextInt(4);
        int n = r.nextInt(10);
        both(x, m, told, "sheet", s, 16, n);
        for (int i = 0; i < n; i++) {
            int v = i < m.w.men.size() && r.nextInt(12) > 0 ? m.w.men.get(i).won : r.nextInt(1500) - 100;
            both(x, m, told, "write", s, i, v);
        }
        both(x, m, told, "judge", s);
        both(x, m, told, "load", s);
    }

    private static void feedText(LineCalls x, Model m, List<String> told, Random r) throws Exception {
        String s = text(r);
        for (int i = 0; i < s.length(); ) {
            int n = Math.min(1 + r.nextInt(4), s.length() - i);
            int v = r.nextInt();
            for (int k = 0; k < n; k++) {
                v = v << 8 | s.charAt(i + k);
            }
            both(x, m, told, "feed", v, n);
            i += n;
        }
        both(x, m, told, "text");
    }

    private static void run(int seed) throws Exception {
        Random r = new Random(seed);
        LineCalls x = new LineCalls();
        Model m = new Model();
        List<String> told = new ArrayList<>();
        for (int i = 0; i < 7 && seed % 3 != 0; i++) {
            both(x, m, told, "jumper", r.nextInt(7), r.nextInt(60) + 40);
            both(x, m, told, "stand", r.nextInt(7), i);
            both(x, m, told, "theirs", i, 1, r.nextInt(60));
        }
        while (told.size() < 512) {
            int way = r.nextInt(60);
            if (way == 0) {
                tellMetres(x, m, told, r);
            } else if (way == 1) {
                tellWon(x, m, told, r);
            } else if (way < 5) {
                feedText(x, m, told, r);
            } else {
                Object[] call = CALLS[r.nextInt(CALLS.length)];
                int[] a = new int[call.length - 1];
                for (int k = 0; k < a.length; k++) {
                    a[k] = among(r, (Integer) call[k + 1]);
                }
                if (call[0].equals("sheet") && r.nextInt(3) > 0) a[1] = r.nextInt(8) == 0 ? 0 : 8 << r.nextInt(3);
                both(x, m, told, (String) call[0], a);
            }
        }
    }

    public static void main(String[] args) throws Exception {
        for (int seed = 1; seed <= 60; seed++) {
            run(seed);
        }
        System.out.println(calls + " calls beside the model");
        System.out.println((calls - wrong) + " passed, " + wrong + " failed");
        if (wrong != 0) {
            System.exit(1);
        }
    }
}
