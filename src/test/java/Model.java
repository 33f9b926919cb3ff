import java.math.BigInteger;
import java.util.ArrayList;
import java.util.HashSet;
import java.util.List;
import java.util.Set;
import java.util.TreeMap;
import java.util.regex.Matcher;
import java.util.regex.Pattern;

/** The document once more, in another way: slow, free with objects, with true arrays whose faults the machine finds. */
final class Model {
    static final int BAD = -1, STATE = -2, FULL = -3, NONE = -4;

    static final class Person {
        int x, y, mood, goal = NONE;
        boolean still;

        Person twin() {
            Person t = new Person();
            t.x = x; t.y = y; t.mood = mood; t.goal = goal; t.still = still;
            return t;
        }
    }

    static final class World {
        int wide = 3, high = 3, press, step;
        Set<Integer> walls = new HashSet<>();
        List<Person> people = new ArrayList<>();
        int[] pulls = {0, 4, 3, 2, 1};
        List<int[]> seen = new ArrayList<>();

        World twin() {
            World t = new World();
            t.wide = wide; t.high = high; t.press = press; t.step = step;
            t.walls = new HashSet<>(walls);
            for (Person p : people) t.people.add(p.twin());
            t.pulls = pulls.clone();
            t.seen = new ArrayList<>(seen);
            return t;
        }

        int at(Person p) { return p.y * wide + p.x; }

        Person in(int x, int y) {
            for (Person p : people) if (p.x == x && p.y == y) return p;
            return null;
        }

        int[] force(Person p) {
            int[] f = new int[2];
            for (Person q : people) {
                if (q == p || p.mood == 0 || q.mood == 0) continue;
                int far = far(p, q);
                int v = far <= 4 ? pulls[far] : 0;
                if (q.mood == p.mood) v = -v;
                if (q.x > p.x) f[0] += v;
                if (q.x < p.x) f[0] -= v;
                if (q.y > p.y) f[1] += v;
                if (q.y < p.y) f[1] -= v;
            }
            return f;
        }

        static int far(Person p, Person q) { return Math.abs(p.x - q.x) + Math.abs(p.y - q.y); }

        int wish(Person p) {
            int[] f = force(p);
            if (p.still) return 4;
            if (f[0] != 0 && Math.abs(f[0]) >= Math.abs(f[1])) return f[0] > 0 ? 1 : 3;
            if (f[1] != 0) return f[1] > 0 ? 2 : 0;
            return 4;
        }

        /** What each does, and then 1 if a MOOD has FLIPPED. */
        int[] step() {
            int n = people.size();
            int[] wishes = new int[n];
            for (int i = 0; i < n; i++) wishes[i] = wish(people.get(i));
            int[] deeds = new int[n + 1];
            for (int i = 0; i < n; i++) {
                Person p = people.get(i);
                int x = p.x, y = p.y;
                switch (wishes[i]) {
                    case 0 -> y--;
                    case 1 -> x++;
                    case 2 -> y++;
                    case 3 -> x--;
                    default -> { }
                }
                deeds[i] = 4;
                if (x < 0 || y < 0 || x >= wide || y >= high) continue;
                if (walls.contains(y * wide + x) || in(x, y) != null) continue;
                p.x = x;
                p.y = y;
                deeds[i] = wishes[i];
            }
            List<Person> pressed = new ArrayList<>();
            for (Person p : people) {
                int near = 0;
                for (Person q : people) if (far(p, q) == 1) near++;
                if (press > 0 && near >= press && p.mood > 0) pressed.add(p);
            }
            for (Person p : pressed) p.mood = flip(p.mood);
            deeds[n] = pressed.isEmpty() ? 0 : 1;
            step++;
            return deeds;
        }

        static int flip(int m) { return new int[] {0, 2, 3, 1}[m]; }

        boolean atRest() {
            int[] deeds = twin().step();
            for (int i = 0; i < people.size(); i++) if (deeds[i] != 4) return false;
            return deeds[people.size()] == 0;
        }

        World later(int n) {
            World t = twin();
            for (int i = 0; i < n; i++) t.step();
            return t;
        }

        int atGoals() { int n = 0; for (Person p : people) if (p.goal == at(p)) n++; return n; }

        int goals() { int n = 0; for (Person p : people) if (p.goal != NONE) n++; return n; }

        boolean free(int c) { return !walls.contains(c) && in(c % wide, c / wide) == null; }

        String look() {
            StringBuilder s = new StringBuilder();
            for (Person p : people) s.append(p.x).append(',').append(p.y).append(',').append(p.mood).append(';');
            return s.toString();
        }

        World withMoods(int[] row) {
            World t = twin();
            for (int i = 0; i < row.length; i++) t.people.get(i).mood = row[i];
            return t;
        }
    }

    static final class Fault extends Exception {
        private static final long serialVersionUID = 1L;
        final int why, place;
        Fault(int why, int place) { this.why = why; this.place = place; }
    }

    private World w = new World();
    private final StringBuilder tape = new StringBuilder();
    private int fault, torn;
    private final World[] images = new World[2];
    private final Object[] sheets = new Object[4];

    private boolean noOne(int p) { return p < 0 || p >= w.people.size(); }

    private boolean noCell(int c) { return c < 0 || c >= w.wide * w.high; }

    private static boolean not(int v, int low, int high) { return v < low || v > high; }

    private Person who(int p) { return w.people.get(p); }

    // ---- the text

    int feed(int c) {
        if (not(c, 0, 127)) return BAD;
        if (tape.length() == 160) return FULL;
        return tape.append((char) c).length();
    }

    int end(int n) {
        int had = tape.length();
        if (not(n, 0, had)) return BAD;
        tape.setLength(n);
        return had;
    }

    private static final Pattern TOKEN = Pattern.compile("\\G *(?:([a-z]+)|([0-9]+)|(;)|\\z)");

    private static final class Lines {
        final String text;
        final Matcher m;
        int next;
        int from;
        String word;

        Lines(String text) { this.text = text; m = TOKEN.matcher(text); }

        void token() throws Fault {
            if (!m.find(next)) {
                int place = next;
                while (text.charAt(place) == ' ') place++;
                throw new Fault(1, place);
            }
            next = m.end();
            word = m.group(1) != null ? m.group(1) : m.group(2) != null ? m.group(2) : m.group(3);
            from = word == null ? text.length() : m.end() - word.length();
            if (m.group(2) != null && word.length() > 2) throw new Fault(1, from);
        }

        int number(int low, int high) throws Fault {
            token();
            if (word == null || !Character.isDigit(word.charAt(0))) throw new Fault(2, from);
            int v = Integer.parseInt(word);
            if (v < low || v > high) throw new Fault(3, from);
            return v;
        }
    }

    int text() {
        String text = tape.toString();
        tape.setLength(0);
        fault = 0;
        try {
            int[] lines = new int[1];
            w = told(text, lines);
            images[0] = null;
            images[1] = null;
            return lines[0];
        } catch (Fault f) {
            fault = f.why;
            return -10 - f.place;
        }
    }

    private static World told(String text, int[] count) throws Fault {
        World t = new World();
        List<int[]> ones = new ArrayList<>();
        TreeMap<Integer, Integer> goals = new TreeMap<>();
        Set<String> once = new HashSet<>();
        Set<Integer> taken = new HashSet<>();
        Lines in = new Lines(text);
        for (in.token(); in.word != null; in.token()) {
            String name = in.word;
            if (List.of("town", "pull", "press").contains(name) && !once.add(name)) throw new Fault(4, in.from);
            switch (name) {
                case "town" -> { t.wide = in.number(2, 5); t.high = in.number(2, 5); }
                case "wall" -> {
                    int c = in.number(0, 24);
                    if (!taken.add(c)) throw new Fault(4, in.from);
                    t.walls.add(c);
                }
                case "at", "still" -> {
                    if (ones.size() == 5) throw new Fault(5, in.from);
                    int c = in.number(0, 24);
                    if (!taken.add(c)) throw new Fault(4, in.from);
                    ones.add(new int[] {c, in.number(0, 3), name.equals("at") ? 0 : 1});
                }
                case "pull" -> { for (int d = 1; d < 5; d++) t.pulls[d] = in.number(0, 9); }
                case "press" -> t.press = in.number(0, 4);
                case "goal" -> {
                    int p = in.number(0, 4);
                    if (goals.containsKey(p)) throw new Fault(4, in.from);
                    goals.put(p, in.number(0, 24));
                }
                default -> throw new Fault(2, in.from);
            }
            in.token();
            if (!";".equals(in.word)) throw new Fault(2, in.from);
            count[0]++;
        }
        int size = t.wide * t.high;
        for (int c : taken) if (c >= size) throw new Fault(6, text.length());
        for (int p : goals.keySet()) if (p >= ones.size() || goals.get(p) >= size) throw new Fault(6, text.length());
        for (int[] one : ones) {
            Person p = new Person();
            p.x = one[0] % t.wide;
            p.y = one[0] / t.wide;
            p.mood = one[1];
            p.still = one[2] == 1;
            p.goal = goals.getOrDefault(t.people.size(), NONE);
            t.people.add(p);
        }
        return t;
    }

    int fault() { return fault; }

    int rule(int what) {
        int walls = 0;
        for (int c : w.walls) walls += 1 << c;
        if (what >= 11 && what <= 14) return w.pulls[what - 10];
        int[] all = {w.wide, w.high, walls, w.people.size(), w.press, w.step};
        return not(what, 0, 5) ? BAD : all[what];
    }

    int one(int p, int what) {
        if (noOne(p) || not(what, 0, 3)) return BAD;
        return new int[] {w.at(who(p)), who(p).mood, who(p).still ? 1 : 0, who(p).goal}[what];
    }

    int cell(int c) {
        if (noCell(c)) return BAD;
        int p = w.people.indexOf(w.in(c % w.wide, c / w.wide));
        return p < 0 ? NONE : p;
    }

    // ---- what is changed

    int mood(int p, int m) {
        if (noOne(p) || not(m, 0, 3)) return BAD;
        int was = who(p).mood;
        who(p).mood = m;
        return was;
    }

    int put(int p, int c) {
        if (noOne(p) || noCell(c) || w.walls.contains(c)) return BAD;
        Person there = w.in(c % w.wide, c / w.wide);
        if (there != null && there != who(p)) return BAD;
        int was = w.at(who(p));
        who(p).x = c % w.wide;
        who(p).y = c / w.wide;
        return was;
    }

    int hold(int p, boolean is) {
        if (noOne(p)) return BAD;
        boolean was = who(p).still;
        who(p).still = is;
        return was ? 1 : 0;
    }

    int goal(int p, int c) {
        if (noOne(p) || c != NONE && noCell(c)) return BAD;
        int was = who(p).goal;
        who(p).goal = c;
        return was;
    }

    int wall(int c, boolean is) {
        if (noCell(c) || w.in(c % w.wide, c / w.wide) != null) return BAD;
        return (is ? !w.walls.add(c) : w.walls.remove(c)) ? 1 : 0;
    }

    int pull(int d, int v) {
        if (not(d, 1, 4) || not(v, 0, 9)) return BAD;
        int was = w.pulls[d];
        w.pulls[d] = v;
        return was;
    }

    int press(int v) {
        if (not(v, 0, 4)) return BAD;
        int was = w.press;
        w.press = v;
        return was;
    }

    // ---- forces

    int force(int p, int what) { return noOne(p) || not(what, 0, 1) ? BAD : 100 + w.force(who(p))[what]; }

    int wish(int p) { return noOne(p) ? BAD : w.wish(who(p)); }

    int stuck() {
        int bits = 0;
        int[] deeds = w.twin().step();
        for (int i = 0; i < w.people.size(); i++) if (w.wish(who(i)) != 4 && deeds[i] == 4) bits += 1 << i;
        return bits;
    }

    int strain() {
        int sum = 0;
        for (Person p : w.people) for (int f : w.force(p)) sum += Math.abs(f);
        return sum;
    }

    // ---- steps

    int go(int n) {
        if (not(n, 0, 60)) return BAD;
        if (w.step + n >= 1000) return FULL;
        w = w.later(n);
        return w.atGoals();
    }

    int ahead(int p, int n, int what) {
        if (noOne(p) || not(n, 0, 60) || not(what, 0, 1)) return BAD;
        World t = w.later(n);
        Person q = t.people.get(p);
        return what == 0 ? t.at(q) : q.mood;
    }

    int rest() {
        for (int n = 0; n <= 60; n++) if (w.later(n).atRest()) return n;
        return NONE;
    }

    int again(int what) {
        if (not(what, 0, 1)) return BAD;
        List<String> looks = new ArrayList<>();
        World t = w.twin();
        for (int n = 0; n <= 60; n++) {
            int first = looks.indexOf(t.look());
            if (first >= 0) return what == 0 ? first : n - first;
            looks.add(t.look());
            t.step();
        }
        return NONE;
    }

    // ---- moods set, places

    /** All rows of MOODS, the first by ONES first. */
    private static List<int[]> rows(int n) {
        List<int[]> all = new ArrayList<>();
        if (n == 0) {
            all.add(new int[0]);
            return all;
        }
        for (int[] head : rows(n - 1)) {
            for (int m = 0; m < 4; m++) {
                int[] row = java.util.Arrays.copyOf(head, n);
                row[n - 1] = m;
                all.add(row);
            }
        }
        return all;
    }

    private boolean notAll(int what) { return what != 0 && (what < 10 || noOne(what - 10)); }

    int setting(int n, int what) {
        if (not(n, 0, 12) || notAll(what)) return BAD;
        int[] best = null;
        int fewest = 99;
        for (int[] row : rows(w.people.size())) {
            int changed = 0;
            for (int i = 0; i < row.length; i++) if (row[i] != who(i).mood) changed++;
            if (changed >= fewest) continue;
            World t = w.withMoods(row).later(n);
            if (t.atGoals() == t.goals()) {
                best = row;
                fewest = changed;
            }
        }
        if (best == null) return NONE;
        return what == 0 ? fewest : best[what - 10];
    }

    int out() {
        int bits = 0;
        for (int i = 0; i < w.people.size(); i++) {
            World t = w.twin();
            t.people.remove(i);
            if (t.atRest()) bits += 1 << i;
        }
        return bits;
    }

    int calm(int p) {
        if (noOne(p)) return BAD;
        int bits = 0;
        for (int c = 0; c < w.wide * w.high; c++) {
            if (!w.free(c) && c != w.at(who(p))) continue;
            World t = w.twin();
            t.people.get(p).x = c % w.wide;
            t.people.get(p).y = c / w.wide;
            if (t.atRest()) bits += 1 << c;
        }
        return bits;
    }

    int nurse(int p, int a, int b, int what) {
        if (noOne(p) || noOne(a) || noOne(b) || Set.copyOf(List.of(p, a, b)).size() < 3) return BAD;
        if (what != 0 && not(what, 10, 13)) return BAD;
        for (int n = 0; n <= 4; n++) {
            for (int[] row : rows(n)) {
                World t = w.twin();
                for (int m : row) {
                    t.people.get(p).mood = m;
                    t.step();
                }
                if (World.far(t.people.get(a), t.people.get(b)) <= 1) continue;
                if (what == 0) return n;
                return what - 10 < n ? row[what - 10] : NONE;
            }
        }
        return NONE;
    }

    int hang(int m, int n, int what) {
        if (not(m, 1, 3) || not(n, 0, 12) || not(what, 0, 1)) return BAD;
        int place = NONE;
        int most = -1;
        for (int c = w.wide * w.high - 1; c >= 0; c--) {
            if (!w.free(c)) continue;
            World t = w.twin();
            Person portrait = new Person();
            portrait.x = c % w.wide;
            portrait.y = c / w.wide;
            portrait.mood = m;
            portrait.still = true;
            t.people.add(portrait);
            int there = t.later(n).atGoals();
            if (there >= most) {
                most = there;
                place = c;
            }
        }
        return place == NONE ? NONE : what == 0 ? place : most;
    }

    // ---- odds

    /** How often out of ten to the power of PEOPLE: a ONE without MOOD FLIPS to what he was. */
    private BigInteger weight(World t, int i, int v, int n) {
        if (i == t.people.size()) {
            World late = t.later(n);
            return late.atGoals() == late.goals() ? BigInteger.ONE : BigInteger.ZERO;
        }
        World flipped = t.twin();
        flipped.people.get(i).mood = World.flip(flipped.people.get(i).mood);
        return weight(t, i + 1, v, n).multiply(BigInteger.valueOf(10 - v))
            .add(weight(flipped, i + 1, v, n).multiply(BigInteger.valueOf(v)));
    }

    long odds(int v, int n, int what) {
        if (not(v, 0, 10) || not(n, 0, 12) || not(what, 0, 1)) return BAD;
        BigInteger part = weight(w, 0, v, n);
        BigInteger whole = BigInteger.TEN.pow(w.people.size());
        return (what == 0 ? part : whole).divide(part.gcd(whole)).longValueExact();
    }

    // ---- seen

    int see(int p, int way) {
        if (noOne(p) || not(way, 0, 4)) return BAD;
        if (w.seen.size() == 8) return FULL;
        w.seen.add(new int[] {p, way});
        return w.seen.size();
    }

    int forget(int n) {
        int had = w.seen.size();
        if (not(n, 0, had)) return BAD;
        w.seen = new ArrayList<>(w.seen.subList(0, n));
        return had;
    }

    int moods(int what) {
        if (notAll(what)) return BAD;
        int fit = 0;
        int bits = 0;
        for (int[] row : rows(w.people.size())) {
            int[] deeds = w.withMoods(row).step();
            if (!w.seen.stream().allMatch(s -> deeds[s[0]] == s[1])) continue;
            fit++;
            if (what != 0) bits |= 1 << row[what - 10];
        }
        return what == 0 ? fit : bits;
    }

    // ---- by a seed

    int crowd(int seed, int n) {
        if (not(n, 1, 60)) return BAD;
        if (w.people.isEmpty()) return STATE;
        World t = w.twin();
        int went = 0;
        BigInteger s = BigInteger.valueOf(seed);
        for (int i = 0; i < n; i++) {
            s = BigInteger.valueOf(s.multiply(BigInteger.valueOf(1103515245)).add(BigInteger.valueOf(12345)).intValue());
            int bits = 0;
            for (int b = 16; b <= 30; b++) if (s.testBit(b)) bits += 1 << (b - 16);
            Person p = t.people.get(bits % t.people.size());
            p.mood = p.mood == 3 ? 0 : p.mood + 1;
            int[] deeds = t.step();
            for (int k = 0; k < t.people.size(); k++) if (deeds[k] != 4) went++;
        }
        return went;
    }

    // ---- images, sheets

    int keep(int k) {
        if (not(k, 0, 1)) return BAD;
        int was = images[k] == null ? 0 : 1;
        images[k] = w.twin();
        return was;
    }

    int back(int k) {
        if (not(k, 0, 1)) return BAD;
        if (images[k] == null) return STATE;
        w = images[k].twin();
        return w.step;
    }

    int sheet(int k, int lane, int n) {
        if (not(k, 0, 3) || not(lane, 0, 2) || n > 40) return BAD;
        try {
            sheets[k] = lane == 0 ? new byte[n] : lane == 1 ? new short[n] : new int[n];
            return 1;
        } catch (NegativeArraySizeException e) {
            return -14;
        }
    }

    int lay(int k, int i, int v) {
        if (not(k, 0, 3)) return BAD;
        try {
            if (sheets[k] instanceof byte[] b) b[i] = (byte) v;
            else if (sheets[k] instanceof short[] s) s[i] = (short) v;
            else ((int[]) sheets[k])[i] = v;
            return 1;
        } catch (NullPointerException e) {
            return -11;
        } catch (ArrayIndexOutOfBoundsException e) {
            return -12;
        }
    }

    int read(int k, int lane, int f, int n) {
        if (not(k, 0, 3) || not(lane, 0, 2) || not(n, 0, 20)) return BAD;
        List<int[]> whole = new ArrayList<>();
        int found = 0;
        try {
            byte[] b = lane == 0 ? (byte[]) sheets[k] : null;
            short[] s = lane == 1 ? (short[]) sheets[k] : null;
            int[] t = lane == 2 ? (int[]) sheets[k] : null;
            for (int i = 0; i < n; i++) {
                int at = f + 2 * i;
                int p = lane == 0 ? b[at] : lane == 1 ? s[at] : t[at];
                int m = lane == 0 ? b[at + 1] : lane == 1 ? s[at + 1] : t[at + 1];
                if (noOne(p) || not(m, 0, 3)) return -20 - i;
                whole.add(new int[] {p, m});
            }
        } catch (NullPointerException e) {
            found = 1;
        } catch (ArrayIndexOutOfBoundsException e) {
            found = 2;
        } catch (ClassCastException e) {
            found = 3;
        }
        for (int[] one : whole) who(one[0]).mood = one[1];
        torn = found;
        return whole.size();
    }

    int torn() { return torn; }

    int count(int what) {
        int noMood = 0;
        for (Person p : w.people) if (p.mood == 0) noMood++;
        int kept = (images[0] == null ? 0 : 1) + (images[1] == null ? 0 : 1);
        int cells = sheets[0] == null ? NONE : java.lang.reflect.Array.getLength(sheets[0]);
        int[] all = {w.atGoals(), w.goals(), w.seen.size(), kept, tape.length(), cells, noMood};
        return not(what, 0, 6) ? BAD : all[what];
    }
}
