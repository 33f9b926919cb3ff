/** Promises 16 to 19: FORCES, WISHES, who is STUCK, STRAIN. */
public final class ForceTest {
    private static final Check CHECK = new Check("ForceTest");

    private static void due(String call, long got, long want) { CHECK.due(call, got, want); }

    public static void main(String[] args) {
        forces();
        wishes();
        stuckOnes();
        byOrder();
        CHECK.close();
    }

    /** FORCE on ONE 0 of a town five by five. */
    private static void force(String ones, int east, int south) {
        MoodTown x = CHECK.town("town 5 5;" + ones);
        due(ones + " to the east", x.force(0, 0), 100 + east);
        due(ones + " to the south", x.force(0, 1), 100 + south);
    }

    private static void forces() {
        force("at 12 1;at 13 2;", 4, 0);
        force("at 12 1;at 13 1;", -4, 0);
        force("at 12 1;at 11 3;", -4, 0);
        force("at 12 3;at 11 3;", 4, 0);
        force("at 12 1;at 17 2;", 0, 4);
        force("at 12 1;at 7 2;", 0, -4);
        force("at 12 1;at 18 2;", 3, 3);
        force("at 12 1;at 6 2;", -3, -3);
        force("at 12 1;at 9 2;", 2, -2);
        force("at 12 2;at 24 2;", -1, -1);
        force("at 0 1;at 4 2;", 1, 0);
        force("at 0 1;at 9 2;", 0, 0);
        force("at 12 1;at 13 0;", 0, 0);
        force("at 12 0;at 13 1;", 0, 0);
        force("still 12 1;at 13 2;", 4, 0);
        force("at 12 1;wall 13;at 14 2;", 3, 0);
        force("at 12 1;at 11 2;at 13 2;", 0, 0);
        force("at 12 1;at 13 1;at 18 2;at 17 3;", -1, 7);
        force("at 12 1;at 13 2;pull 9 0 0 0;", 9, 0);
        force("at 12 1;at 11 2;at 7 2;at 6 2;at 1 2;pull 9 9 9 9;", -27, -27);
        MoodTown x = CHECK.town("at 0 1;");
        due("force(0, 2)", x.force(0, 2), MoodTown.BAD);
        due("force(0, -1)", x.force(0, -1), MoodTown.BAD);
        due("force(1, 0)", x.force(1, 0), MoodTown.BAD);
        due("force(-1, 0)", x.force(-1, 0), MoodTown.BAD);
    }

    private static void wish(String ones, int way) { due(ones + " wish(0)", CHECK.town("town 5 5;" + ones).wish(0), way); }

    private static void wishes() {
        wish("at 12 1;at 7 2;", 0);
        wish("at 12 1;at 13 2;", 1);
        wish("at 12 1;at 17 2;", 2);
        wish("at 12 1;at 11 2;", 3);
        wish("at 12 1;", 4);
        wish("at 12 1;at 18 2;", 1);
        wish("at 12 1;at 6 2;", 3);
        wish("at 12 1;at 18 2;at 17 2;", 2);
        wish("at 12 1;at 8 2;at 7 2;", 0);
        wish("at 12 1;at 11 2;at 13 2;", 4);
        wish("still 12 1;at 13 2;", 4);
        wish("at 12 0;at 13 2;", 4);
        wish("at 0 1;at 1 1;", 3);
        wish("at 12 1;wall 13;at 14 2;", 1);
        MoodTown x = CHECK.town("at 0 1;");
        due("wish(1)", x.wish(1), MoodTown.BAD);
        due("wish(-1)", x.wish(-1), MoodTown.BAD);
    }

    private static void stuck(String text, int bits) {
        MoodTown x = CHECK.town(text);
        due(text + " stuck()", x.stuck(), bits);
        due(text + " STEP stays", x.rule(5), 0);
    }

    private static void stuckOnes() {
        stuck("town 5 5;at 12 1;still 13 2;", 1);
        stuck("town 5 5;at 12 1;at 13 2;", 3);
        stuck("town 5 5;at 10 1;wall 11;at 12 2;", 3);
        stuck("town 5 5;at 10 1;at 12 2;", 2);
        stuck("town 5 5;at 0 1;at 1 1;", 1);
        stuck("town 5 5;at 12 1;at 14 0;", 0);
        stuck("town 5 5;at 4 1;at 3 1;wall 2;", 3);
    }

    /** A ONE goes only where nobody is by then: who leaves later still stands in the way. */
    private static void byOrder() {
        String tail = "at 3 1;at 4 1;";
        stuck("town 5 2;at 0 1;at 1 2;" + tail, 13);
        stuck("town 5 2;at 1 2;at 0 1;" + tail, 12);
        MoodTown x = CHECK.town("town 5 2;at 0 1;at 1 2;" + tail);
        int[] east = {1, 1, -5, 3};
        for (int p = 0; p < 4; p++) due("force(" + p + ", 0)", x.force(p, 0), 100 + east[p]);
        due("strain()", x.strain(), 10);
        due("strain of rows and columns", CHECK.town("town 5 5;at 12 1;still 18 2;at 0 0;").strain(), 12);
        due("strain of one", CHECK.town("at 0 1;").strain(), 0);
        due("go(1)", x.go(1), 0);
        int[] cells = {0, 2, 3, 4};
        for (int p = 0; p < 4; p++) due("one(" + p + ", 0)", x.one(p, 0), cells[p]);
    }
}
