/** Promises 9 to 15: what is changed. */
public final class ChangeTest {
    private static final Check CHECK = new Check("ChangeTest");

    private static void due(String call, long got, long want) { CHECK.due(call, got, want); }

    public static void main(String[] args) {
        moods();
        places();
        heldOnes();
        goals();
        walls();
        pullsAndPress();
        CHECK.close();
    }

    private static void moods() {
        MoodTown x = CHECK.town("at 0 1;at 5 0;");
        due("mood(0, 3)", x.mood(0, 3), 1);
        due("mood(0, 0)", x.mood(0, 0), 3);
        due("mood(1, 2)", x.mood(1, 2), 0);
        due("mood(0, 4)", x.mood(0, 4), MoodTown.BAD);
        due("mood(0, -1)", x.mood(0, -1), MoodTown.BAD);
        due("mood(2, 1)", x.mood(2, 1), MoodTown.BAD);
        due("mood(-1, 1)", x.mood(-1, 1), MoodTown.BAD);
        due("one(0, 1)", x.one(0, 1), 0);
        due("one(1, 1)", x.one(1, 1), 2);
    }

    private static void places() {
        MoodTown x = CHECK.town("town 3 2;at 0 1;at 5 0;wall 2;");
        due("put(0, 4)", x.put(0, 4), 0);
        due("cell(4)", x.cell(4), 0);
        due("cell(0)", x.cell(0), MoodTown.NONE);
        due("put where he is", x.put(0, 4), 4);
        due("put in a WALL", x.put(0, 2), MoodTown.BAD);
        due("put on another", x.put(0, 5), MoodTown.BAD);
        due("put(0, 6)", x.put(0, 6), MoodTown.BAD);
        due("put(0, -1)", x.put(0, -1), MoodTown.BAD);
        due("put(2, 0)", x.put(2, 0), MoodTown.BAD);
        due("put(-1, 0)", x.put(-1, 0), MoodTown.BAD);
        due("one(0, 0)", x.one(0, 0), 4);
    }

    private static void heldOnes() {
        MoodTown x = CHECK.town("at 0 1;still 5 0;");
        due("hold(0, true)", x.hold(0, true), 0);
        due("hold(0, true) again", x.hold(0, true), 1);
        due("hold(1, false)", x.hold(1, false), 1);
        due("one(0, 2)", x.one(0, 2), 1);
        due("one(1, 2)", x.one(1, 2), 0);
        due("hold(2, true)", x.hold(2, true), MoodTown.BAD);
        due("hold(-1, true)", x.hold(-1, true), MoodTown.BAD);
    }

    private static void goals() {
        MoodTown x = CHECK.town("town 2 2;at 0 1;wall 3;");
        due("goal(0, 3)", x.goal(0, 3), MoodTown.NONE);
        due("goal(0, 0)", x.goal(0, 0), 3);
        due("count(0)", x.count(0), 1);
        due("goal(0, 4)", x.goal(0, 4), MoodTown.BAD);
        due("goal(0, -1)", x.goal(0, -1), MoodTown.BAD);
        due("goal(0, -3)", x.goal(0, -3), MoodTown.BAD);
        due("goal(1, NONE)", x.goal(1, MoodTown.NONE), MoodTown.BAD);
        due("goal(0, NONE)", x.goal(0, MoodTown.NONE), 0);
        due("one(0, 3)", x.one(0, 3), MoodTown.NONE);
    }

    private static void walls() {
        MoodTown x = CHECK.town("town 2 2;at 0 1;wall 3;");
        due("wall(1, true)", x.wall(1, true), 0);
        due("wall(1, true) again", x.wall(1, true), 1);
        due("rule(2)", x.rule(2), 10);
        due("wall(3, false)", x.wall(3, false), 1);
        due("wall(3, false) again", x.wall(3, false), 0);
        due("rule(2) then", x.rule(2), 2);
        due("a ONE there", x.wall(0, true), MoodTown.BAD);
        due("a ONE there, none", x.wall(0, false), MoodTown.BAD);
        due("wall(4, true)", x.wall(4, true), MoodTown.BAD);
        due("wall(-1, true)", x.wall(-1, true), MoodTown.BAD);
    }

    private static void pullsAndPress() {
        MoodTown x = new MoodTown();
        for (int d = 1; d <= 4; d++) due("pull(" + d + ", 9)", x.pull(d, 9), 5 - d);
        due("pull(1, 0)", x.pull(1, 0), 9);
        due("pull(0, 1)", x.pull(0, 1), MoodTown.BAD);
        due("pull(5, 1)", x.pull(5, 1), MoodTown.BAD);
        due("pull(1, 10)", x.pull(1, 10), MoodTown.BAD);
        due("pull(1, -1)", x.pull(1, -1), MoodTown.BAD);
        due("rule(11)", x.rule(11), 0);
        due("rule(14)", x.rule(14), 9);
        due("press(4)", x.press(4), 0);
        due("press(5)", x.press(5), MoodTown.BAD);
        due("press(-1)", x.press(-1), MoodTown.BAD);
        due("press(0)", x.press(0), 4);
    }
}
