/** Boundary cases of promises 6 to 15: what can be asked, what is changed. */
public final class BoundsChangeTest {
    private static final Bounds B = new Bounds("BoundsChangeTest");
    private static final int BAD = Bounds.BAD, NONE = Bounds.NONE;

    public static void main(String[] args) {
        rule();
        one();
        cell();
        mood();
        put();
        hold();
        goal();
        wall();
        pull();
        press();
        B.close();
    }

    /** Of busy(): ONES 0 to 3, so these are none. */
    private static final int[] NO_ONES = {-1, -4, 4, 5, Integer.MIN_VALUE, Integer.MAX_VALUE};

    /** Of busy(), four by three: CELLS 0 to 11. */
    private static final int[] NO_CELLS = {-1, 12, 24, 25, 32, Integer.MIN_VALUE, Integer.MAX_VALUE};

    private static void rule() {
        B.of("promise 6: 0 to 5; 10 and d: the PULL by d (1 to 4). BAD");
        MoodTown x = Bounds.busy();
        int[] rules = {4, 3, 1 << 11, 4, 2, 3};
        for (int what = 0; what <= 5; what++) B.due("rule(" + what + ")", x.rule(what), rules[what]);
        int[] pulls = {9, 0, 5, 7};
        for (int d = 1; d <= 4; d++) B.due("rule(1" + d + ")", x.rule(10 + d), pulls[d - 1]);
        for (int what : new int[] {-1, -10, 6, 7, 8, 9, 10, 15, 16}) B.refused("rule(" + what + ")", y -> y.rule(what), BAD);
        for (int what : Bounds.FAR) B.refused("rule(" + what + ")", y -> y.rule(what), BAD);
        B.due("the least WIDE", B.town("town 2 5;").rule(0), 2);
        B.due("the greatest HIGH", B.town("town 2 5;").rule(1), 5);
        B.due("the last WALL", B.town("town 5 5;wall 24;").rule(2), 16777216);
    }

    private static void one() {
        B.of("promise 7: Of a ONE: 0 CELL, 1 MOOD, 2 STILL (1, 0), 3 GOAL (NONE). BAD");
        MoodTown x = B.town("town 5 5;at 0 0;still 24 3;goal 1 24;");
        int[][] ones = {{0, 0, 0, NONE}, {24, 3, 1, 24}};
        for (int p = 0; p < 2; p++) for (int i = 0; i < 4; i++) B.due("one(" + p + ", " + i + ")", x.one(p, i), ones[p][i]);
        for (int p : NO_ONES) B.refused("one(" + p + ", 0)", y -> y.one(p, 0), BAD);
        for (int what : new int[] {-1, 4, 10, Integer.MIN_VALUE, Integer.MAX_VALUE}) B.refused("one(0, " + what + ")", y -> y.one(0, what), BAD);
        for (int what = 0; what < 4; what++) B.due("of nobody", new MoodTown().one(0, what), BAD);
        B.due("the fifth", B.town("at 0 1;at 1 1;at 2 1;at 3 1;at 4 2;").one(4, 1), 2);
        B.due("no sixth", B.town("at 0 1;at 1 1;at 2 1;at 3 1;at 4 2;").one(5, 1), BAD);
    }

    private static void cell() {
        B.of("promise 8: Who is in a CELL. BAD; NONE: nobody");
        MoodTown x = B.town("town 2 2;at 3 1;at 0 1;wall 1;");
        B.due("the first CELL", x.cell(0), 1);
        B.due("the last CELL", x.cell(3), 0);
        B.due("in a WALL nobody", x.cell(1), NONE);
        B.due("free", x.cell(2), NONE);
        B.due("no such CELL", x.cell(4), BAD);
        for (int c : NO_CELLS) B.refused("cell(" + c + ")", y -> y.cell(c), BAD);
    }

    private static void mood() {
        B.of("promise 9: MOOD of a ONE becomes m: what it was. BAD");
        MoodTown x = B.town("at 0 1;still 1 0;");
        int was = 1;
        for (int m : new int[] {0, 3, 3, 2, 1, 0}) {
            B.due("mood(0, " + m + ")", x.mood(0, m), was);
            was = m;
        }
        B.due("of a STILL one", x.mood(1, 3), 0);
        B.due("the other is as he was", x.one(0, 1), 0);
        for (int m : new int[] {-1, 4, Integer.MIN_VALUE, Integer.MAX_VALUE}) B.refused("mood(0, " + m + ")", y -> y.mood(0, m), BAD);
        for (int p : NO_ONES) B.refused("mood(" + p + ", 1)", y -> y.mood(p, 1), BAD);
        B.due("of nobody", new MoodTown().mood(0, 1), BAD);
    }

    private static void put() {
        B.of("promise 10: A ONE is in a CELL: where he was. BAD");
        MoodTown x = B.town("town 2 2;at 0 1;still 1 1;wall 2;");
        B.due("to the last CELL", x.put(0, 3), 0);
        B.due("where he is", x.put(0, 3), 3);
        B.due("a STILL one too", x.put(1, 0), 1);
        B.due("to the place that was left", x.put(0, 1), 3);
        B.due("nobody is left behind", x.cell(3), NONE);
        for (int c : NO_CELLS) B.refused("put(0, " + c + ")", y -> y.put(0, c), BAD);
        for (int p : NO_ONES) B.refused("put(" + p + ", 4)", y -> y.put(p, 4), BAD);
        B.of("promise 10: BAD: also a WALL, another ONE there");
        B.refused("a WALL", y -> y.put(0, 11), BAD);
        for (int p = 1; p < 4; p++) {
            int q = p;
            B.refused("where ONE " + q + " is", y -> y.put(0, y.one(q, 0)), BAD);
            B.refused("where ONE 0 is", y -> y.put(q, y.one(0, 0)), BAD);
        }
    }

    private static void hold() {
        B.of("promise 11: A ONE is STILL, or not: whether he was. BAD");
        MoodTown x = B.town("at 0 1;still 1 1;");
        B.due("not, as he was", x.hold(0, false), 0);
        B.due("STILL", x.hold(0, true), 0);
        B.due("STILL, as he was", x.hold(0, true), 1);
        B.due("not", x.hold(0, false), 1);
        B.due("he who was told so", x.hold(1, true), 1);
        for (int p : NO_ONES) {
            B.refused("hold(" + p + ", true)", y -> y.hold(p, true), BAD);
            B.refused("hold(" + p + ", false)", y -> y.hold(p, false), BAD);
        }
    }

    private static void goal() {
        B.of("promise 12: GOAL of a ONE is a CELL (NONE: none): what it was. BAD");
        MoodTown x = B.town("town 2 2;at 0 1;at 1 1;wall 2;");
        B.due("none, as it was", x.goal(0, NONE), NONE);
        B.due("the first CELL", x.goal(0, 0), NONE);
        B.due("the last CELL", x.goal(0, 3), 0);
        B.due("a WALL", x.goal(0, 2), 3);
        B.due("where another is", x.goal(0, 1), 2);
        B.due("the GOAL of another", x.goal(1, 1), NONE);
        B.due("none", x.goal(0, NONE), 1);
        B.due("he has none", x.one(0, 3), NONE);
        for (int c : NO_CELLS) B.refused("goal(0, " + c + ")", y -> y.goal(0, c), BAD);
        for (int c : new int[] {-2, -3, -5}) B.refused("goal(0, " + c + ")", y -> y.goal(0, c), BAD);
        for (int p : NO_ONES) {
            B.refused("goal(" + p + ", 0)", y -> y.goal(p, 0), BAD);
            B.refused("goal(" + p + ", NONE)", y -> y.goal(p, NONE), BAD);
        }
    }

    private static void wall() {
        B.of("promise 13: A WALL in a CELL, or none: whether there was. BAD");
        MoodTown x = B.town("town 5 5;at 12 1;");
        B.due("the first CELL", x.wall(0, true), 0);
        B.due("the last CELL", x.wall(24, true), 0);
        B.due("both", x.rule(2), 16777217);
        B.due("as it was", x.wall(24, true), 1);
        B.due("none", x.wall(24, false), 1);
        B.due("none, as it was", x.wall(24, false), 0);
        B.due("one is left", x.rule(2), 1);
        for (int c : NO_CELLS) {
            B.refused("wall(" + c + ", true)", y -> y.wall(c, true), BAD);
            B.refused("wall(" + c + ", false)", y -> y.wall(c, false), BAD);
        }
        B.of("promise 13: BAD: also a ONE there");
        for (int p = 0; p < 4; p++) {
            int q = p;
            B.refused("where ONE " + p + " is", y -> y.wall(y.one(q, 0), true), BAD);
            B.refused("none where ONE " + p + " is", y -> y.wall(y.one(q, 0), false), BAD);
        }
        B.due("a GOAL is no ONE", B.town("at 0 1;goal 0 5;").wall(5, true), 0);
    }

    private static void pull() {
        B.of("promise 14: The PULL by d becomes v: what it was. BAD");
        MoodTown x = new MoodTown();
        for (int d = 1; d <= 4; d++) {
            B.due("pull(" + d + ", 0)", x.pull(d, 0), 5 - d);
            B.due("pull(" + d + ", 9)", x.pull(d, 9), 0);
            B.due("pull(" + d + ", 9) again", x.pull(d, 9), 9);
        }
        for (int d : new int[] {-1, 0, 5, 11, Integer.MIN_VALUE, Integer.MAX_VALUE}) B.refused("pull(" + d + ", 1)", y -> y.pull(d, 1), BAD);
        for (int v : new int[] {-1, 10, Integer.MIN_VALUE, Integer.MAX_VALUE}) B.refused("pull(1, " + v + ")", y -> y.pull(1, v), BAD);
    }

    private static void press() {
        B.of("promise 15: PRESS becomes v: what it was. BAD");
        MoodTown x = new MoodTown();
        B.due("0, as it was", x.press(0), 0);
        B.due("4", x.press(4), 0);
        B.due("0", x.press(0), 4);
        for (int v : new int[] {-1, 5, Integer.MIN_VALUE, Integer.MAX_VALUE}) B.refused("press(" + v + ")", y -> y.press(v), BAD);
    }
}
