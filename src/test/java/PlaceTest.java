/** Promises 24 to 29: MOODS set for GOALS, who can be taken out, calm CELLS, the nurse, the portrait, odds. */
public final class PlaceTest {
    private static final Check CHECK = new Check("PlaceTest");

    private static void due(String call, long got, long want) { CHECK.due(call, got, want); }

    public static void main(String[] args) {
        settings();
        takenOut();
        calmCells();
        nurses();
        portraits();
        chances();
        CHECK.close();
    }

    private static void settings() {
        MoodTown x = CHECK.town("town 5 2;at 0 1;at 4 1;goal 0 1;goal 1 3;");
        due("setting(1, 0)", x.setting(1, 0), 1);
        due("setting(1, 10)", x.setting(1, 10), 1);
        due("setting(1, 11)", x.setting(1, 11), 2);
        due("setting(0, 0)", x.setting(0, 0), MoodTown.NONE);
        due("setting(2, 0)", x.setting(2, 0), MoodTown.NONE);
        due("setting(2, 11)", x.setting(2, 11), MoodTown.NONE);
        due("MOODS stay", x.one(1, 1), 1);
        due("STEP stays", x.rule(5), 0);
        for (int what : new int[] {-1, 1, 9, 12, 15, Integer.MIN_VALUE}) due("setting(1, " + what + ")", x.setting(1, what), MoodTown.BAD);
        due("setting(-1, 0)", x.setting(-1, 0), MoodTown.BAD);
        due("setting(13, 0)", x.setting(13, 0), MoodTown.BAD);
        due("setting(13, 0) of a town without", new MoodTown().setting(13, 0), MoodTown.BAD);
        due("nobody", new MoodTown().setting(12, 0), 0);
        x.mood(0, 3);
        due("already so", x.setting(1, 0), 0);
        due("already so, 0", x.setting(1, 10), 3);
        due("already so, 1", x.setting(1, 11), 1);
        MoodTown none = CHECK.town("town 5 2;at 0 0;at 4 0;goal 0 1;");
        due("both must change", none.setting(1, 0), 2);
        due("both, the first row, 0", none.setting(1, 10), 1);
        due("both, the first row, 1", none.setting(1, 11), 2);
        MoodTown quiet = CHECK.town("town 5 2;at 0 2;at 4 1;goal 0 0;goal 1 4;");
        due("0 is a MOOD too", quiet.setting(12, 0), 1);
        due("the first is 0", quiet.setting(12, 10), 0);
        due("the other keeps his", quiet.setting(12, 11), 1);
        due("no GOALS", CHECK.town("at 0 1;at 1 1;").setting(12, 10), 1);
        MoodTown alike = CHECK.town("town 5 2;at 1 3;at 2 1;goal 0 0;");
        due("either takes the other's MOOD", alike.setting(1, 0), 1);
        due("both 1 comes before both 3, 0", alike.setting(1, 10), 1);
        due("both 1 comes before both 3, 1", alike.setting(1, 11), 1);
        due("who was told before counts no more", fewer().setting(12, 0), 0);
    }

    /** A text of one ONE alone, behind a text of three. */
    private static MoodTown fewer() {
        MoodTown x = CHECK.town("at 0 1;at 2 2;at 4 3;");
        due("a text of fewer", Check.tell(x, "at 0 1;"), 1);
        return x;
    }

    private static void takenOut() {
        due("two that push", CHECK.town("town 5 5;at 12 1;at 13 1;").out(), 3);
        due("a third without MOOD", CHECK.town("town 5 5;at 12 1;at 13 1;at 0 0;").out(), 3);
        due("none alone", CHECK.town("town 5 5;at 6 1;at 8 1;at 16 1;at 18 1;").out(), 0);
        due("at rest with or without", CHECK.town("town 5 5;still 12 1;still 13 1;").out(), 3);
        due("who stays STILL", CHECK.town("town 5 5;at 0 1;still 12 1;still 13 1;").out(), 7);
        due("a FLIP is no rest", CHECK.town("still 0 1;still 1 1;still 8 1;press 1;").out(), 3);
        due("the first of three", CHECK.town("town 5 2;at 0 1;still 1 0;at 2 2;wall 6;wall 5;wall 7;").out(), 5);
    }

    private static void calmCells() {
        MoodTown x = CHECK.town("town 5 2;at 0 1;still 4 1;");
        due("calm(0)", x.calm(0), 1 + 32 + 512);
        due("calm(2)", x.calm(2), MoodTown.BAD);
        due("calm(-1)", x.calm(-1), MoodTown.BAD);
        due("he stays", x.one(0, 0), 0);
        due("alone", CHECK.town("town 2 2;at 0 1;wall 3;").calm(0), 7);
        due("without MOOD, others press", CHECK.town("town 2 2;at 0 0;still 3 1;press 1;").calm(0), 1);
        due("nowhere", CHECK.town("town 5 2;at 0 0;at 2 1;at 3 1;").calm(0), 0);
    }

    private static void nurses() {
        MoodTown x = CHECK.town("town 5 2;still 4 0;at 2 1;still 1 0;at 9 0;");
        due("nurse(0, 1, 2, 0)", x.nurse(0, 1, 2, 0), 1);
        due("nurse(0, 2, 1, 0)", x.nurse(0, 2, 1, 0), 1);
        due("nurse(0, 1, 2, 10)", x.nurse(0, 1, 2, 10), 2);
        due("nurse(0, 1, 2, 11)", x.nurse(0, 1, 2, 11), MoodTown.NONE);
        due("nurse(0, 1, 2, 13)", x.nurse(0, 1, 2, 13), MoodTown.NONE);
        due("apart already", x.nurse(0, 1, 3, 0), 0);
        due("apart already, 10", x.nurse(0, 1, 3, 10), MoodTown.NONE);
        due("MOODS stay", x.one(0, 1), 0);
        due("CELLS stay", x.one(1, 0), 2);
        for (int what : new int[] {-1, 1, 9, 14, Integer.MIN_VALUE}) due("nurse(0, 1, 2, " + what + ")", x.nurse(0, 1, 2, what), MoodTown.BAD);
        int[][] bad = {{0, 0, 1}, {0, 1, 0}, {0, 1, 1}, {4, 0, 1}, {0, 4, 1}, {0, 1, 4}, {-1, 0, 1}, {0, -1, 1}, {0, 1, -1}};
        for (int[] b : bad) due("nurse of " + b[0] + " " + b[1] + " " + b[2], x.nurse(b[0], b[1], b[2], 0), MoodTown.BAD);
        x.hold(1, true);
        due("never", x.nurse(0, 1, 2, 0), MoodTown.NONE);
        due("never, 10", x.nurse(0, 1, 2, 10), MoodTown.NONE);
        row("town 5 3;at 13 3;at 9 1;at 8 1;still 6 1;wall 10;pull 4 8 6 8;press 3;", 3, 2, 2, 2, MoodTown.NONE);
        row("town 4 4;at 2 3;at 1 2;at 0 1;wall 8;pull 9 4 6 1;press 2;", 4, 0, 0, 1, 0);
    }

    /** Found by the model: rows of several MOODS. */
    private static void row(String text, int steps, int... moods) {
        MoodTown x = CHECK.town(text);
        due(text + " nurse", x.nurse(0, 1, 2, 0), steps);
        for (int i = 0; i < 4; i++) due(text + " nurse 1" + i, x.nurse(0, 1, 2, 10 + i), moods[i]);
        for (int i = 0; i < steps; i++) {
            due("not apart behind " + i, far(x) > 1 ? 1 : 0, 0);
            x.mood(0, moods[i]);
            x.go(1);
        }
        due("apart behind " + steps, far(x) > 1 ? 1 : 0, 1);
    }

    private static int far(MoodTown x) {
        int a = x.one(1, 0);
        int b = x.one(2, 0);
        int wide = x.rule(0);
        return Math.abs(a % wide - b % wide) + Math.abs(a / wide - b / wide);
    }

    private static void portraits() {
        MoodTown x = CHECK.town("town 5 2;at 0 1;goal 0 1;");
        due("hang(2, 1, 0)", x.hang(2, 1, 0), 2);
        due("hang(2, 1, 1)", x.hang(2, 1, 1), 1);
        due("hang(1, 1, 0)", x.hang(1, 1, 0), 1);
        due("hang(1, 1, 1)", x.hang(1, 1, 1), 0);
        due("hang(3, 12, 0)", x.hang(3, 12, 0), 2);
        due("nobody more", x.rule(3), 1);
        due("CELLS stay", x.one(0, 0), 0);
        int[][] bad = {{0, 1, 0}, {4, 1, 0}, {1, -1, 0}, {1, 13, 0}, {1, 1, 2}, {1, 1, -1}};
        for (int[] b : bad) due("hang of " + b[0] + " " + b[1] + " " + b[2], x.hang(b[0], b[1], b[2]), MoodTown.BAD);
        MoodTown full = CHECK.town("town 2 2;wall 1;wall 2;wall 3;at 0 1;goal 0 0;");
        due("no CELL free", full.hang(1, 0, 0), MoodTown.NONE);
        due("no CELL free, how many", full.hang(1, 0, 1), MoodTown.NONE);
        due("no CELL free, BAD", full.hang(0, 0, 1), MoodTown.BAD);
        MoodTown five = CHECK.town("town 5 2;at 0 1;still 5 0;still 6 0;still 7 0;still 8 0;goal 0 1;");
        due("a sixth hangs", five.hang(2, 1, 0), 2);
        due("a sixth hangs, how many", five.hang(2, 1, 1), 1);
        due("five are left", five.rule(3), 5);
        // the portrait presses him, and is pressed itself: both are of MOOD 2, then 3 and 3 part
        MoodTown pressed = CHECK.town("town 5 2;still 0 3;goal 0 0;at 7 1;goal 1 8;press 1;");
        due("hung next to him", pressed.hang(1, 1, 0), 1);
        due("hung next to him, how many", pressed.hang(1, 1, 1), 2);
        due("nobody to look", new MoodTown().hang(1, 3, 0), 0);
    }

    private static void odds(MoodTown x, int v, int n, long part, long whole) {
        due("odds(" + v + ", " + n + ", 0)", x.odds(v, n, 0), part);
        due("odds(" + v + ", " + n + ", 1)", x.odds(v, n, 1), whole);
    }

    private static void chances() {
        MoodTown same = CHECK.town("town 5 2;at 0 1;still 4 1;goal 0 1;at 9 0;");
        odds(same, 5, 1, 1, 2);
        odds(same, 3, 1, 21, 50);
        odds(same, 1, 1, 9, 50);
        odds(same, 0, 1, 0, 1);
        odds(same, 10, 1, 0, 1);
        odds(same, 5, 0, 0, 1);
        MoodTown other = CHECK.town("town 5 2;at 0 1;still 4 2;goal 0 1;");
        odds(other, 5, 1, 3, 4);
        odds(other, 3, 1, 79, 100);
        odds(other, 0, 1, 1, 1);
        odds(other, 10, 1, 1, 1);
        odds(new MoodTown(), 5, 12, 1, 1);
        odds(fewer(), 5, 12, 1, 1);
        odds(CHECK.town("at 0 0;at 1 0;goal 1 1;"), 5, 12, 1, 1);
        MoodTown three = CHECK.town("town 5 5;still 0 3;still 4 1;at 12 1;still 14 1;at 24 1;goal 2 13;goal 4 24;pull 0 1 0 0;");
        odds(three, 1, 1, 9, 100);
        MoodTown unlike = CHECK.town("town 5 5;still 12 1;at 10 2;at 14 2;goal 1 11;goal 2 13;pull 0 1 0 0;");
        odds(unlike, 1, 1, 901, 1000);
        odds(unlike, 9, 1, 829, 1000);
        due("odds(11, 1, 0)", same.odds(11, 1, 0), MoodTown.BAD);
        due("odds(-1, 1, 0)", same.odds(-1, 1, 0), MoodTown.BAD);
        due("odds(5, 13, 0)", same.odds(5, 13, 0), MoodTown.BAD);
        due("odds(5, -1, 0)", same.odds(5, -1, 0), MoodTown.BAD);
        due("odds(5, 1, 2)", same.odds(5, 1, 2), MoodTown.BAD);
        due("odds(5, 1, -1)", same.odds(5, 1, -1), MoodTown.BAD);
        due("MOODS stay", same.one(0, 1), 1);
    }
}
