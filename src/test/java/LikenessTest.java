import java.util.Random;

/** Many runs of calls by fixed seeds: the class and the model must answer alike, call by call. */
public final class LikenessTest {
    private static final int RUNS = 2500;
    private static final int CALLS = 200;
    /** An object answers to 512 calls; a text more is some 170 of them. */
    private static final int ENOUGH = 330;

    private final Random random;
    private final MoodTown x = new MoodTown();
    private final Model y = new Model();
    private final StringBuilder told = new StringBuilder();
    private int asked;

    private LikenessTest(long seed) { random = new Random(seed); }

    public static void main(String[] args) {
        int runs = args.length > 0 ? Integer.parseInt(args[0]) : RUNS;
        long base = args.length > 1 ? Long.parseLong(args[1]) : 0;
        for (int run = 0; run < runs; run++) {
            LikenessTest test = new LikenessTest(base + run);
            if (!test.runs()) {
                System.out.println("LikenessTest: run " + run + " is unlike:\n" + test.told);
                System.exit(1);
            }
        }
        System.out.println("LikenessTest: " + runs + " runs are alike");
    }

    private boolean alike(String call, long a, long b) {
        asked++;
        told.append(call).append(" : ").append(a).append(a == b ? "" : ", due is " + b).append('\n');
        return a == b;
    }

    private int below(int n) { return random.nextInt(n); }

    private boolean seldom() { return below(12) == 0; }

    private int wild() {
        int[] some = {-1, -2, -4, -5, 5, 9, 13, 25, 40, 61, 1000, Integer.MIN_VALUE, Integer.MAX_VALUE, 16, 2, 0};
        return some[below(some.length)];
    }

    private int around(int low, int high) { return seldom() ? wild() : low + below(high - low + 1); }

    private int anyOne() { return seldom() ? wild() : below(Math.max(1, y.rule(3))); }

    private int anyCell() { return seldom() ? wild() : below(y.rule(0) * y.rule(1)); }

    private int totalOrOne() { return seldom() ? wild() : below(2) == 0 ? 0 : 10 + below(Math.max(1, y.rule(3))); }

    private boolean runs() {
        if (!feedText(true)) return false;
        for (int i = 0; i < CALLS && asked < ENOUGH; i++) {
            if (!call()) return false;
        }
        return true;
    }

    private boolean feedText(boolean good) {
        String text = good ? goodText() : random.nextInt(3) == 0 ? spoilt(goodText()) : wildText();
        for (int i = 0; i < text.length(); i++) {
            int c = text.charAt(i);
            if (!alike("feed " + c, x.feed(c), y.feed(c))) return false;
        }
        told.append("'").append(text).append("'\n");
        return alike("text", x.text(), y.text()) && alike("fault", x.fault(), y.fault());
    }

    private String goodText() {
        int wide = 2 + below(4);
        int high = 2 + below(4);
        int size = wide * high;
        StringBuilder s = new StringBuilder("town " + wide + " " + high + ";");
        java.util.List<Integer> cells = new java.util.ArrayList<>();
        for (int c = 0; c < size; c++) cells.add(c);
        java.util.Collections.shuffle(cells, random);
        int next = 0;
        int people = Math.min(below(6), size);
        if (below(4) == 0) people = Math.min(5, size);
        for (int i = 0; i < people; i++) s.append(below(4) == 0 ? "still " : "at ").append(cells.get(next++)).append(' ').append(below(6) == 0 ? 0 : 1 + below(3)).append(';');
        for (int i = below(3); i > 0 && next < size; i--) s.append("wall ").append(cells.get(next++)).append(';');
        if (below(2) == 0) s.append("pull ").append(below(10)).append(' ').append(below(10)).append(' ').append(below(10)).append(' ').append(below(10)).append(';');
        if (below(2) == 0) s.append("press ").append(below(5)).append(';');
        for (int i = 0; i < people; i++) if (below(3) == 0) s.append("goal ").append(i).append(' ').append(below(size)).append(';');
        return s.toString();
    }

    private String spoilt(String text) {
        StringBuilder s = new StringBuilder(text);
        for (int i = below(3); i >= 0; i--) {
            int at = below(s.length());
            String signs = "0123456789 ;atzT\t";
            char c = signs.charAt(below(signs.length()));
            switch (below(3)) {
                case 0 -> s.setCharAt(at, c);
                case 1 -> s.insert(at, c);
                default -> s.deleteCharAt(at);
            }
        }
        return s.toString();
    }

    private String wildText() {
        String[] words = {"town", "wall", "at", "still", "pull", "press", "goal", ";", ";", ";", "x", "att", "123", "$", " ", "0", "1", "2", "3", "4", "5", "24", "25", "09"};
        String[] lines = {"town 4 4;", "wall 3;", "at 5 1;", "still 6 0;", "pull 1 2 3 4;", "press 3;", "goal 0 3;", "goal 1 8;", "at 1 2;", "at 8 3;", "wall 9;", "at 2 2;", "at 7 1;"};
        StringBuilder s = new StringBuilder();
        for (int i = below(10); i > 0; i--) s.append(lines[below(lines.length)]);
        for (int i = below(6); i > 0; i--) s.append(words[below(words.length)]).append(below(2) == 0 ? " " : "");
        return s.length() > 160 ? s.substring(0, 160) : s.toString();
    }

    private boolean call() {
        int p = anyOne();
        int c = anyCell();
        int n = around(0, 60);
        int few = around(0, 12);
        int half = around(0, 1);
        switch (below(46)) {
            case 0: return seldom() ? feedText(below(2) == 0) : alike("feed", x.feed(n), y.feed(n));
            case 1: return alike("end " + few, x.end(few), y.end(few));
            case 2: return seldom() ? alike("text", x.text(), y.text()) : true;
            case 3: return alike("fault", x.fault(), y.fault());
            case 4: { int w = around(0, 14); return alike("rule " + w, x.rule(w), y.rule(w)); }
            case 5: { int w = around(0, 3); return alike("one " + p + " " + w, x.one(p, w), y.one(p, w)); }
            case 6: return alike("cell " + c, x.cell(c), y.cell(c));
            case 7: case 41: { int m = around(0, 3); return alike("mood " + p + " " + m, x.mood(p, m), y.mood(p, m)); }
            case 8: case 42: return alike("put " + p + " " + c, x.put(p, c), y.put(p, c));
            case 9: { boolean is = below(3) == 0; return alike("hold " + p + " " + is, x.hold(p, is), y.hold(p, is)); }
            case 10: case 43: return alike("goal " + p + " " + c, x.goal(p, c), y.goal(p, c));
            case 11: { boolean is = below(2) == 0; return alike("wall " + c + " " + is, x.wall(c, is), y.wall(c, is)); }
            case 12: { int d = around(1, 4); int v = around(0, 9); return alike("pull " + d + " " + v, x.pull(d, v), y.pull(d, v)); }
            case 13: { int v = around(0, 4); return alike("press " + v, x.press(v), y.press(v)); }
            case 14: return alike("force " + p + " " + half, x.force(p, half), y.force(p, half));
            case 15: return alike("wish " + p, x.wish(p), y.wish(p));
            case 16: return alike("stuck", x.stuck(), y.stuck());
            case 17: return alike("strain", x.strain(), y.strain());
            case 18: case 44: { int k = below(3) == 0 ? n : below(4); return alike("go " + k, x.go(k), y.go(k)); }
            case 19: return alike("ahead " + p + " " + n + " " + half, x.ahead(p, n, half), y.ahead(p, n, half));
            case 20: return alike("rest", x.rest(), y.rest());
            case 21: return alike("again " + half, x.again(half), y.again(half));
            case 22: if (below(3) != 0) return true;
                { int w = totalOrOne(); return alike("setting " + few + " " + w, x.setting(few, w), y.setting(few, w)); }
            case 23: return alike("out", x.out(), y.out());
            case 24: return alike("calm " + p, x.calm(p), y.calm(p));
            case 25: case 45: { int a = anyOne(); int b = anyOne(); int w = below(2) == 0 ? 0 : around(10, 13);
                return alike("nurse " + p + " " + a + " " + b + " " + w, x.nurse(p, a, b, w), y.nurse(p, a, b, w)); }
            case 26: { int m = around(1, 3); return alike("hang " + m + " " + few + " " + half, x.hang(m, few, half), y.hang(m, few, half)); }
            case 27: { int v = around(0, 10); return alike("odds " + v + " " + few + " " + half, x.odds(v, few, half), y.odds(v, few, half)); }
            case 28: { int way = below(2) == 0 ? y.wish(p) : around(0, 4); return alike("see " + p + " " + way, x.see(p, way), y.see(p, way)); }
            case 29: { int k = around(0, 8); return alike("forget " + k, x.forget(k), y.forget(k)); }
            case 30: { int w = totalOrOne(); return alike("moods " + w, x.moods(w), y.moods(w)); }
            case 31: { int seed = random.nextInt(); return alike("crowd " + seed + " " + n, x.crowd(seed, n), y.crowd(seed, n)); }
            case 32: { int k = around(0, 1); return alike("keep " + k, x.keep(k), y.keep(k)); }
            case 33: { int k = around(0, 1); return alike("back " + k, x.back(k), y.back(k)); }
            case 34: { int k = around(0, 3); int lane = around(0, 2); int size = around(-3, 40);
                return alike("sheet " + k + " " + lane + " " + size, x.sheet(k, lane, size), y.sheet(k, lane, size)); }
            case 35: case 36: case 37: return sheetCalls();
            case 38: return alike("torn", x.torn(), y.torn());
            default: { int w = around(0, 6); return alike("count " + w, x.count(w), y.count(w)); }
        }
    }

    private boolean sheetCalls() {
        int k = around(0, 3);
        for (int i = 0; i < 6; i++) {
            int at = around(0, 11);
            int v = seldom() ? wild() : (below(5) == 0 ? random.nextInt() & ~0xFF : 0) + below(4);
            if (!alike("lay " + k + " " + at + " " + v, x.lay(k, at, v), y.lay(k, at, v))) return false;
        }
        int lane = around(0, 2);
        int f = around(0, 12);
        int n = around(0, 6);
        return alike("read " + k + " " + lane + " " + f + " " + n, x.read(k, lane, f, n), y.read(k, lane, f, n))
            && alike("torn", x.torn(), y.torn());
    }
}
