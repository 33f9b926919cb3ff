/** Promises 20 to 23: STEPS gone and ahead, where all come to rest, what comes again. */
public final class StepTest {
    private static final Check CHECK = new Check("StepTest");

    private static void due(String call, long got, long want) { CHECK.due(call, got, want); }

    public static void main(String[] args) {
        going();
        flips();
        limits();
        aheadAndRest();
        comesAgain();
        longOnes();
        CHECK.close();
    }

    private static void going() {
        MoodTown x = CHECK.town("town 5 2;at 0 1;at 4 2;goal 0 1;goal 1 3;");
        due("go(0)", x.go(0), 0);
        due("rule(5)", x.rule(5), 0);
        due("go(1)", x.go(1), 2);
        due("one(0, 0)", x.one(0, 0), 1);
        due("one(1, 0)", x.one(1, 0), 3);
        due("go(1) more", x.go(1), 1);
        due("ONE 0 comes first", x.one(0, 0), 2);
        due("ONE 1 stays", x.one(1, 0), 3);
        due("go(60)", x.go(60), 1);
        due("rule(5) then", x.rule(5), 62);
        MoodTown still = CHECK.town("town 5 2;still 0 1;at 4 2;");
        still.go(60);
        due("a STILL one stays", still.one(0, 0), 0);
        due("the other comes", still.one(1, 0), 1);
    }

    private static void moodsBehind(String text, int n, int... moods) {
        MoodTown x = CHECK.town(text);
        for (int p = 0; p < moods.length; p++) due(text + " ahead(" + p + ", " + n + ", 1)", x.ahead(p, n, 1), moods[p]);
        x.go(n);
        for (int p = 0; p < moods.length; p++) due(text + " one(" + p + ", 1) behind " + n, x.one(p, 1), moods[p]);
    }

    private static void flips() {
        moodsBehind("at 0 1;at 1 2;press 1;", 1, 2, 3);
        moodsBehind("at 0 1;at 1 2;press 1;", 2, 3, 1);
        moodsBehind("at 0 1;at 1 2;press 1;", 3, 1, 2);
        moodsBehind("at 0 1;at 1 2;press 0;", 3, 1, 2);
        moodsBehind("at 0 1;at 1 2;press 2;", 3, 1, 2);
        moodsBehind("at 0 1;at 1 0;press 1;", 1, 2, 0);
        moodsBehind("still 0 3;still 1 3;press 1;", 1, 1, 1);
        moodsBehind("still 0 1;still 4 2;press 1;", 1, 1, 2);
        moodsBehind("still 0 1;still 1 1;still 3 1;press 2;", 1, 2, 1, 1);
        moodsBehind("still 4 1;still 1 0;still 3 0;still 5 0;still 7 0;press 4;", 1, 2, 0, 0, 0, 0);
        // the place counts in which all are when they have gone
        moodsBehind("town 5 2;at 0 1;still 2 2;press 1;", 1, 2, 3);
        moodsBehind("town 5 2;at 1 1;still 0 1;press 1;", 1, 1, 1);
    }

    private static void limits() {
        MoodTown x = CHECK.town("at 0 1;goal 0 0;");
        due("go(-1)", x.go(-1), MoodTown.BAD);
        due("go(61)", x.go(61), MoodTown.BAD);
        for (int i = 0; i < 16; i++) x.go(60);
        due("rule(5)", x.rule(5), 960);
        due("go(40)", x.go(40), MoodTown.FULL);
        due("rule(5) stays", x.rule(5), 960);
        due("go(39)", x.go(39), 1);
        due("go(0)", x.go(0), 1);
        due("go(1)", x.go(1), MoodTown.FULL);
        due("go(61) when full", x.go(61), MoodTown.BAD);
        due("rule(5) at last", x.rule(5), 999);
        due("ahead(0, 60, 0)", x.ahead(0, 60, 0), 0);
    }

    private static void aheadAndRest() {
        MoodTown x = CHECK.town("town 5 2;at 0 1;at 4 2;");
        int[] first = {0, 1, 2, 2};
        int[] second = {4, 3, 3, 3};
        for (int n = 0; n < 4; n++) {
            due("ahead(0, " + n + ", 0)", x.ahead(0, n, 0), first[n]);
            due("ahead(1, " + n + ", 0)", x.ahead(1, n, 0), second[n]);
        }
        due("ahead(0, 60, 0)", x.ahead(0, 60, 0), 2);
        due("ahead(0, 60, 1)", x.ahead(0, 60, 1), 1);
        due("ahead(0, 61, 0)", x.ahead(0, 61, 0), MoodTown.BAD);
        due("ahead(0, -1, 0)", x.ahead(0, -1, 0), MoodTown.BAD);
        due("ahead(2, 1, 0)", x.ahead(2, 1, 0), MoodTown.BAD);
        due("ahead(0, 1, 2)", x.ahead(0, 1, 2), MoodTown.BAD);
        due("nothing has changed", x.one(0, 0), 0);
        due("nor STEP", x.rule(5), 0);
        due("rest()", x.rest(), 2);
        x.go(1);
        due("rest() from now on", x.rest(), 1);
        x.go(1);
        due("rest() now", x.rest(), 0);
        due("only FLIPS are no rest", CHECK.town("at 0 1;at 1 0;press 1;").rest(), MoodTown.NONE);
        due("nobody rests", new MoodTown().rest(), 0);
    }

    private static void again(String text, int first, int more) {
        MoodTown x = CHECK.town(text);
        due(text + " again(0)", x.again(0), first);
        due(text + " again(1)", x.again(1), more);
    }

    private static void comesAgain() {
        again("town 5 2;at 0 1;at 4 2;", 2, 1);
        again("at 0 1;at 1 2;press 1;", 0, 3);
        again("at 0 1;at 1 2;", 0, 1);
        again("", 0, 1);
        MoodTown x = new MoodTown();
        due("again(2)", x.again(2), MoodTown.BAD);
        due("again(-1)", x.again(-1), MoodTown.BAD);
    }

    /** Found by the model: towns at the bound of sixty, and one STEP beyond it. */
    private static void longOnes() {
        again("town 5 4;at 4 3;still 10 3;at 9 2;at 5 3;at 19 1;wall 14;wall 3;pull 4 7 4 3;press 1;", 21, 39);
        String beyond = "town 5 5;still 18 1;at 3 3;at 14 1;at 15 1;at 0 3;wall 21;wall 22;pull 5 7 9 8;press 1;";
        again(beyond, MoodTown.NONE, MoodTown.NONE);
        MoodTown x = CHECK.town(beyond);
        x.go(1);
        due("one STEP later again(0)", x.again(0), 9);
        due("one STEP later again(1)", x.again(1), 51);
        MoodTown y = CHECK.town("town 4 4;at 0 2;at 7 1;at 4 2;at 9 2;at 13 1;wall 15;wall 5;pull 4 0 5 1;press 2;");
        due("rest() behind 61", y.rest(), MoodTown.NONE);
        y.go(1);
        due("rest() behind 60", y.rest(), 60);
        due("60 and 1 are too many", y.again(0), MoodTown.NONE);
        y.go(1);
        due("59 and 1 are not", y.again(0), 59);
    }
}
