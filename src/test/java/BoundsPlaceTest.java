import java.util.ArrayList;
import java.util.List;

/** Boundary cases of promises 24 to 29: MOODS set, who is taken out, calm CELLS, the nurse, the portrait, odds. */
public final class BoundsPlaceTest {
    private static final Bounds B = new Bounds("BoundsPlaceTest");
    private static final int BAD = Bounds.BAD, NONE = Bounds.NONE;
    private static final int[] NO_STEPS = {-1, 13, 60, Integer.MIN_VALUE, Integer.MAX_VALUE};

    public static void main(String[] args) {
        setting();
        settingRefused();
        out();
        calm();
        nurse();
        nurseBeyond();
        nurseRefused();
        hang();
        hangRefused();
        odds();
        lowestTerms();
        oddsRefused();
        B.close();
    }

    /** All rows of MOODS, in order. */
    private static List<int[]> rows(int n) {
        List<int[]> all = new ArrayList<>();
        for (int row = 0; row < 1 << 2 * n; row++) {
            int[] moods = new int[n];
            for (int i = 0; i < n; i++) moods[i] = row >> 2 * (n - 1 - i) & 3;
            all.add(moods);
        }
        return all;
    }

    /** The same by mood() and go() on other objects. */
    private static void settingOf(String text, int n) {
        MoodTown x = B.town(text);
        int people = x.rule(3);
        int[] best = null;
        int fewest = people + 1;
        for (int[] row : rows(people)) {
            MoodTown y = B.town(text);
            int changed = 0;
            for (int p = 0; p < people; p++) changed += y.mood(p, row[p]) != row[p] ? 1 : 0;
            if (y.go(n) == y.count(1) && changed < fewest) {
                fewest = changed;
                best = row;
            }
        }
        B.due(text + " setting(" + n + ", 0)", x.setting(n, 0), best == null ? NONE : fewest);
        for (int p = 0; p < people; p++) B.due(text + " setting(" + n + ", 1" + p + ")", x.setting(n, 10 + p), best == null ? NONE : best[p]);
    }

    private static void setting() {
        B.of("promise 24: behind n STEPS (0 to 12)");
        String late = "town 4 4;at 3 2;at 11 3;at 5 2;wall 13;pull 9 1 5 5;press 3;goal 0 5;";
        MoodTown x = B.town(late);
        B.due("behind 11 by none", x.setting(11, 0), NONE);
        B.due("behind 12 by one", x.setting(12, 0), 1);
        for (int n : new int[] {0, 1, 11, 12}) {
            settingOf(late, n);
            settingOf("town 4 3;at 2 3;at 7 1;at 9 2;wall 4;pull 9 5 1 6;goal 0 7;", n);
            settingOf("town 4 2;at 6 2;at 2 2;at 5 2;wall 1;wall 7;press 2;goal 0 2;", n);
        }
        B.of("promise 24: The fewest ONES");
        MoodTown there = B.town("at 0 1;at 8 0;goal 0 0;goal 1 8;");
        B.due("all are there now: none must be set", there.setting(0, 0), 0);
        B.due("MOOD as it is, 0", there.setting(0, 10), 1);
        B.due("MOOD as it is, 1", there.setting(0, 11), 0);
        B.due("nobody has a GOAL", B.town("at 0 1;at 1 1;").setting(12, 0), 0);
        B.due("nobody", new MoodTown().setting(0, 0), 0);
        B.due("all must be set", B.town("town 5 2;at 0 0;at 4 0;goal 0 1;").setting(1, 0), 2);
        B.of("promise 24: of several the first by ONES");
        settingOf("town 5 2;at 0 0;at 4 0;goal 0 1;", 1);
        settingOf("town 5 2;at 0 1;at 4 1;goal 0 1;", 1);
        settingOf("town 5 2;at 0 2;at 4 1;goal 0 0;goal 1 4;", 12);
        settingOf("town 5 2;at 0 3;at 4 3;at 2 3;goal 0 1;", 1);
        B.of("promise 24: NONE: by none");
        settingOf("town 5 2;still 0 1;at 4 1;goal 0 1;", 12);
    }

    private static void settingRefused() {
        B.of("promise 24: BAD");
        for (int n : NO_STEPS) B.refused("setting(" + n + ", 0)", x -> x.setting(n, 0), BAD);
        for (int what : new int[] {-1, 1, 9, 14, 15, Integer.MIN_VALUE, Integer.MAX_VALUE}) B.refused("setting(0, " + what + ")", x -> x.setting(0, what), BAD);
        B.due("the last ONE", Bounds.busy().setting(0, 13) != BAD ? 1 : 0, 1);
        B.due("no ONE", new MoodTown().setting(0, 10), BAD);
        B.due("BAD ahead of NONE", B.town("still 0 1;goal 0 1;").setting(0, 11), BAD);
        B.refused("setting(12, 0) changes nothing", x -> x.setting(12, 0) * 0, 0);
    }

    private static void out() {
        B.of("promise 25: ONES who can be taken out (one alone) so that it is AT REST without him (bits)");
        B.due("nobody", new MoodTown().out(), 0);
        B.due("one alone", B.town("at 0 1;").out(), 1);
        B.due("all five", B.town("still 0 1;still 1 1;still 2 1;still 3 1;still 4 1;").out(), 31);
        B.due("the fifth alone", B.town("town 5 5;still 0 1;still 4 1;still 20 1;still 24 1;at 12 2;pull 0 0 0 1;wall 1;").out(), 16);
        B.due("two must go", B.town("town 5 5;still 0 1;still 2 2;at 12 1;at 14 1;").out(), 0);
        B.due("with FLIPS alone", B.town("still 0 1;still 1 1;press 1;").out(), 3);
        B.refused("out() changes nothing", x -> x.out() * 0, 0);
    }

    private static void calm() {
        B.of("promise 26: CELLS (free ones, his own too) in which a ONE can be so that it is AT REST (bits)");
        B.due("all of them", B.town("town 5 5;at 24 1;").calm(0), (1 << 25) - 1);
        B.due("no WALL", B.town("town 5 5;at 24 1;wall 0;wall 23;").calm(0), (1 << 25) - 2 - (1 << 23));
        B.due("not where another is", B.town("town 2 2;at 0 0;at 3 0;").calm(0), 7);
        B.due("his own alone", B.town("town 2 2;at 0 1;wall 1;wall 2;wall 3;").calm(0), 1);
        B.due("his own, but a MOOD FLIPS by him", B.town("town 2 2;at 2 1;still 0 2;still 1 2;press 2;wall 3;").calm(0), 0);
        B.due("none", B.town("town 5 2;at 0 0;at 2 1;at 3 1;").calm(0), 0);
        B.due("a STILL one", B.town("town 2 2;still 0 1;still 1 2;").calm(0), 13);
        B.of("promise 26: BAD");
        for (int p : new int[] {-1, 4, Integer.MIN_VALUE, Integer.MAX_VALUE}) B.refused("calm(" + p + ")", x -> x.calm(p), BAD);
        B.due("nobody", new MoodTown().calm(0), BAD);
        B.refused("calm(0) changes nothing", x -> x.calm(0) * 0, 0);
    }

    private static int far(MoodTown x, int a, int b) {
        int wide = x.rule(0);
        int c = x.one(a, 0);
        int d = x.one(b, 0);
        return Math.abs(c % wide - d % wide) + Math.abs(c / wide - d / wide);
    }

    /** The same by mood() and go() on other objects: the fewest STEPS, then the first row. */
    private static int[] nursed(String text, int p, int a, int b) {
        for (int n = 0; n <= 4; n++) {
            for (int[] row : rows(n)) {
                MoodTown x = B.town(text);
                for (int m : row) {
                    x.mood(p, m);
                    x.go(1);
                }
                if (far(x, a, b) > 1) return row;
            }
        }
        return null;
    }

    private static void nurseOf(String text, int p, int a, int b) {
        int[] row = nursed(text, p, a, b);
        MoodTown x = B.town(text);
        String call = text + " nurse(" + p + ", " + a + ", " + b + ", ";
        B.due(call + "0)", x.nurse(p, a, b, 0), row == null ? NONE : row.length);
        for (int i = 0; i < 4; i++) B.due(call + "1" + i + ")", x.nurse(p, a, b, 10 + i), row == null || i >= row.length ? NONE : row[i]);
    }

    private static void nurse() {
        B.of("promise 27: two others (a, b) can be further apart than 1");
        B.due("1 apart is not", B.town("at 0 0;still 4 0;still 5 0;").nurse(0, 1, 2, 0), NONE);
        B.due("2 apart across a corner", B.town("at 0 0;still 4 0;still 8 0;").nurse(0, 1, 2, 0), 0);
        B.due("2 apart in a row", B.town("at 0 0;still 3 0;still 5 0;").nurse(0, 1, 2, 0), 0);
        B.due("from edge to edge is apart", B.town("at 0 0;still 2 0;still 3 0;").nurse(0, 1, 2, 0), 0);
        B.of("promise 27: 10 and i (0 to 3): not so many");
        MoodTown apart = B.town("at 0 0;still 4 0;still 8 0;");
        for (int i = 0; i < 4; i++) B.due("of 0 STEPS, MOOD " + i, apart.nurse(0, 1, 2, 10 + i), NONE);
        B.of("promise 27: behind how many STEPS (0 to 4) at the fewest; the first such row");
        nurseOf("town 5 2;still 4 0;at 2 1;still 1 0;", 0, 1, 2);
        nurseOf("town 5 3;at 13 3;at 9 1;at 8 1;still 6 1;wall 10;pull 4 8 6 8;press 3;", 0, 1, 2);
        nurseOf("town 4 5;at 11 1;still 17 3;at 16 3;", 0, 1, 2);
        nurseOf("town 4 5;at 9 2;at 8 3;at 4 1;wall 14;pull 5 1 5 0;", 0, 1, 2);
        nurseOf("town 4 4;at 2 1;at 12 2;at 13 3;wall 0;wall 15;pull 9 6 6 3;press 1;", 0, 1, 2);
        nurseOf("town 4 4;at 2 3;at 1 2;at 0 1;wall 8;pull 9 4 6 1;press 2;", 0, 1, 2);
        nurseOf("town 4 3;at 11 2;at 6 2;at 2 3;at 3 1;wall 7;wall 0;pull 2 0 2 7;", 0, 2, 1);
    }

    private static void nurseBeyond() {
        B.of("promise 27: NONE: by none (five STEPS are one too many)");
        String[] texts = {"town 4 5;at 0 3;at 11 2;at 10 1;", "town 4 5;at 12 3;at 17 3;at 18 1;wall 0;pull 9 2 9 3;press 3;", "town 5 3;at 10 2;at 2 3;at 3 2;wall 4;press 2;"};
        int[] first = {2, 2, 1};
        for (int i = 0; i < texts.length; i++) {
            nurseOf(texts[i], 0, 1, 2);
            MoodTown x = B.town(texts[i]);
            B.due("by none", x.nurse(0, 1, 2, 0), NONE);
            x.mood(0, first[i]);
            x.go(1);
            B.due("one STEP later four are left", x.nurse(0, 1, 2, 0), 4);
        }
    }

    private static void nurseRefused() {
        B.of("promise 27: BAD (also if not three unlike ONES)");
        for (int v : new int[] {-1, 4, Integer.MIN_VALUE, Integer.MAX_VALUE}) {
            B.refused("the nurse is " + v, x -> x.nurse(v, 1, 2, 0), BAD);
            B.refused("a is " + v, x -> x.nurse(0, v, 2, 0), BAD);
            B.refused("b is " + v, x -> x.nurse(0, 1, v, 0), BAD);
        }
        B.refused("a is the nurse", x -> x.nurse(0, 0, 1, 0), BAD);
        B.refused("b is the nurse", x -> x.nurse(0, 1, 0, 0), BAD);
        B.refused("a is b", x -> x.nurse(0, 1, 1, 0), BAD);
        B.refused("all are one", x -> x.nurse(1, 1, 1, 0), BAD);
        for (int what : new int[] {-1, 1, 9, 14, Integer.MIN_VALUE, Integer.MAX_VALUE}) B.refused("what is " + what, x -> x.nurse(0, 1, 2, what), BAD);
        B.due("there are but two", B.town("at 0 1;at 1 1;").nurse(0, 1, 2, 0), BAD);
        B.due("BAD ahead of NONE", B.town("at 0 0;still 4 0;still 5 0;").nurse(0, 1, 2, 14), BAD);
        B.refused("nurse(0, 1, 2, 0) changes nothing", x -> x.nurse(0, 1, 2, 0) * 0, 0);
    }

    /** The same by a STILL one more that the text tells last. */
    private static void hangOf(String text, int m, int n) {
        MoodTown x = B.town(text);
        int place = NONE;
        int most = NONE;
        for (int c = 0; c < x.rule(0) * x.rule(1); c++) {
            if (x.cell(c) != NONE || (x.rule(2) >> c & 1) != 0) continue;
            int there = B.town(text + "still " + c + " " + m + ";").go(n);
            if (there > most) {
                most = there;
                place = c;
            }
        }
        B.due(text + " hang(" + m + ", " + n + ", 0)", x.hang(m, n, 0), place);
        B.due(text + " hang(" + m + ", " + n + ", 1)", x.hang(m, n, 1), most);
    }

    private static void hang() {
        B.of("promise 28: behind n STEPS (0 to 12) most ONES are at their GOALS, of several the least CELL");
        String late = "town 4 5;at 19 3;at 9 2;at 4 3;wall 3;pull 0 3 3 2;goal 0 10;goal 1 8;";
        B.due("behind 11", B.town(late).hang(1, 11, 1), 1);
        B.due("behind 12", B.town(late).hang(1, 12, 1), 2);
        for (int n : new int[] {0, 1, 11, 12}) {
            for (int m = 1; m <= 3; m++) {
                hangOf(late, m, n);
                hangOf("town 3 4;at 4 1;at 10 2;at 7 3;pull 2 9 3 4;press 1;goal 0 1;goal 1 8;", m, n);
            }
        }
        B.of("promise 28: hung in a free CELL; NONE: no CELL is free");
        hangOf("town 2 2;at 0 1;wall 1;at 2 1;goal 0 0;", 1, 0);
        B.due("the least that is free", B.town("town 5 5;at 0 1;").hang(1, 0, 0), 1);
        B.due("all WALLS but one", walled(24).hang(2, 3, 0), 24);
        B.due("none is free", walled(25).hang(2, 3, 0), NONE);
        B.due("none is free, how many", walled(25).hang(2, 3, 1), NONE);
        B.due("PEOPLE and WALLS", B.town("town 2 2;at 0 1;at 1 1;wall 2;wall 3;").hang(1, 0, 0), NONE);
        B.of("promise 28: a STILL ONE more, the last by order");
        MoodTown five = B.town("town 5 2;at 0 1;still 5 0;still 6 0;still 7 0;still 8 0;goal 0 1;");
        B.due("the sixth", five.hang(2, 1, 0), 2);
        B.due("PEOPLE are five", five.rule(3), 5);
        B.due("nobody else", new MoodTown().hang(1, 12, 0), 0);
        B.due("nobody else, how many", new MoodTown().hang(1, 12, 1), 0);
    }

    private static MoodTown walled(int n) {
        MoodTown x = B.town("town 5 5;");
        for (int c = 0; c < n; c++) x.wall(c, true);
        return x;
    }

    private static void hangRefused() {
        B.of("promise 28: of a MOOD (1 to 3). BAD");
        for (int m : new int[] {-1, 0, 4, Integer.MIN_VALUE, Integer.MAX_VALUE}) B.refused("hang(" + m + ", 1, 0)", x -> x.hang(m, 1, 0), BAD);
        for (int n : NO_STEPS) B.refused("hang(1, " + n + ", 0)", x -> x.hang(1, n, 0), BAD);
        for (int what : new int[] {-1, 2, 10, Integer.MIN_VALUE, Integer.MAX_VALUE}) B.refused("hang(1, 1, " + what + ")", x -> x.hang(1, 1, what), BAD);
        B.due("BAD ahead of NONE", walled(25).hang(1, 13, 0), BAD);
        B.refused("hang(1, 12, 0) changes nothing", x -> x.hang(1, 12, 0) * 0, 0);
    }

    private static long common(long a, long b) { return b == 0 ? a : common(b, a % b); }

    /** The same by mood() and go() on other objects, out of ten to the power of PEOPLE. */
    private static void oddsOf(String text, int v, int n) {
        MoodTown x = B.town(text);
        int people = x.rule(3);
        int[] flip = {0, 2, 3, 1};
        long part = 0;
        long whole = 1;
        for (int p = 0; p < people; p++) whole *= 10;
        for (int bits = 0; bits < 1 << people; bits++) {
            MoodTown y = B.town(text);
            long weight = 1;
            for (int p = 0; p < people; p++) {
                boolean isFlip = (bits >> p & 1) != 0;
                weight *= isFlip ? v : 10 - v;
                if (isFlip) y.mood(p, flip[y.one(p, 1)]);
            }
            if (y.go(n) == y.count(1)) part += weight;
        }
        long by = common(whole, part);
        B.due(text + " odds(" + v + ", " + n + ", 0)", x.odds(v, n, 0), part / by);
        B.due(text + " odds(" + v + ", " + n + ", 1)", x.odds(v, n, 1), whole / by);
    }

    private static void odds() {
        B.of("promise 29: by v out of ten (0 to 10), behind n STEPS (0 to 12)");
        String late = "town 4 4;at 3 2;at 11 3;at 5 2;wall 13;pull 9 1 5 5;press 3;goal 0 5;";
        B.due("behind 11", B.town(late).odds(1, 11, 0), 0);
        B.due("behind 12", B.town(late).odds(1, 12, 0), 81);
        B.due("behind 12, by", B.town(late).odds(1, 12, 1), 1000);
        for (int n : new int[] {0, 1, 11, 12}) {
            for (int v : new int[] {0, 1, 5, 9, 10}) {
                oddsOf(late, v, n);
                oddsOf("town 4 3;at 4 2;at 3 2;at 6 1;wall 9;wall 11;pull 9 7 8 5;press 1;goal 0 8;goal 1 2;", v, n);
            }
        }
        for (int v : new int[] {0, 1, 10}) oddsOf("town 4 2;at 1 2;at 0 3;at 6 2;at 7 3;at 2 2;pull 6 1 3 6;goal 0 1;goal 1 4;", v, 1);
        B.of("promise 29: (0 stays)");
        for (int v : new int[] {0, 1, 10}) oddsOf("town 5 2;at 0 0;still 4 1;at 2 3;goal 2 3;", v, 1);
    }

    private static void fraction(String text, int v, int n, long part, long whole) {
        MoodTown x = B.town(text);
        B.due(text + " odds(" + v + ", " + n + ", 0)", x.odds(v, n, 0), part);
        B.due(text + " odds(" + v + ", " + n + ", 1)", x.odds(v, n, 1), whole);
    }

    private static void lowestTerms() {
        B.of("Terms: Fractions are in lowest terms, the denominator above 0 (0 is 0 by 1)");
        String never = "still 0 1;still 1 2;goal 0 8;";
        String ever = "still 0 1;still 1 2;goal 0 0;";
        for (int v : new int[] {0, 5, 10}) {
            fraction(never, v, 12, 0, 1);
            fraction(ever, v, 12, 1, 1);
            fraction("", v, 0, 1, 1);
            fraction("at 0 1;at 1 2;", v, 12, 1, 1);
        }
        String same = "town 5 2;at 0 1;still 4 1;goal 0 1;";
        fraction(same, 0, 1, 0, 1);
        fraction(same, 10, 1, 0, 1);
        fraction(same, 1, 1, 9, 50);
        fraction(same, 5, 1, 1, 2);
        String five = "town 4 2;at 1 2;at 0 3;at 6 2;at 7 3;at 2 2;pull 6 1 3 6;goal 0 1;goal 1 4;";
        fraction(five, 1, 1, 891, 100000);
        fraction(five, 5, 1, 3, 32);
    }

    private static void oddsRefused() {
        B.of("promise 29: BAD");
        for (int v : new int[] {-1, 11, Integer.MIN_VALUE, Integer.MAX_VALUE}) B.refused("odds(" + v + ", 1, 0)", x -> x.odds(v, 1, 0), BAD);
        for (int n : NO_STEPS) B.refused("odds(1, " + n + ", 0)", x -> x.odds(1, n, 0), BAD);
        for (int what : new int[] {-1, 2, 10, Integer.MIN_VALUE, Integer.MAX_VALUE}) B.refused("odds(1, 1, " + what + ")", x -> x.odds(1, 1, what), BAD);
        B.due("of nobody", new MoodTown().odds(11, 0, 0), BAD);
        B.refused("odds(5, 12, 0) changes nothing", x -> x.odds(5, 12, 0) * 0, 0);
    }
}
