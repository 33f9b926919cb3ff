/** Boundary cases of Terms 2 and of promises 16 to 19: FORCES, WISHES, who is STUCK, STRAIN. */
public final class BoundsForceTest {
    private static final Bounds B = new Bounds("BoundsForceTest");
    private static final int BAD = Bounds.BAD;

    public static void main(String[] args) {
        withoutMood();
        inOneLine();
        greatest();
        refusedForces();
        ties();
        nowhere();
        refusedWishes();
        edges();
        walls();
        byThen();
        stuckNever();
        strain();
        B.close();
    }

    private static void force(String ones, int east, int south) {
        MoodTown x = B.town("town 5 5;" + ones);
        B.due(ones + " to the east", x.force(0, 0), 100 + east);
        B.due(ones + " to the south", x.force(0, 1), 100 + south);
    }

    private static void withoutMood() {
        B.of("2: FORCE on a ONE of MOOD 1, 2, 3, of each other ONE of MOOD 1, 2, 3; on a ONE of MOOD 0: none");
        force("at 12 1;", 0, 0);
        for (int m = 0; m <= 3; m++) {
            force("at 12 0;at 13 " + m + ";", 0, 0);
            force("at 12 " + m + ";at 13 0;", 0, 0);
        }
        for (int m = 1; m <= 3; m++) {
            for (int o = 1; o <= 3; o++) force("at 12 " + m + ";at 13 " + o + ";", m == o ? -4 : 4, 0);
        }
    }

    private static void inOneLine() {
        B.of("2: towards him in columns (if he is in another one) and likewise in rows");
        force("at 12 1;at 17 2;", 0, 4);
        force("at 12 1;at 13 2;", 4, 0);
        force("at 12 1;at 18 2;", 3, 3);
        force("at 12 1;at 18 1;", -3, -3);
        force("at 12 1;at 8 2;", 3, -3);
        force("at 12 1;at 16 2;", -3, 3);
        B.of("2: the PULL by how far he is; beyond none");
        force("at 0 1;at 4 2;", 1, 0);
        force("at 0 1;at 9 2;", 0, 0);
        force("at 0 1;at 24 2;", 0, 0);
        force("at 12 1;at 24 2;", 1, 1);
    }

    private static void greatest() {
        B.of("promise 16: 100 and FORCE");
        String west = "at 11 2;at 10 2;at 6 2;at 5 2;pull 9 9 9 9;";
        force("at 12 1;" + west, -36, -18);
        force("at 12 2;" + west, 36, 18);
        String north = "at 7 2;at 2 2;at 6 2;at 8 2;pull 9 9 9 9;";
        force("at 12 1;" + north, 0, -36);
        force("at 12 2;" + north, 0, 36);
        force("at 12 1;at 13 2;pull 0 0 0 0;", 0, 0);
        force("at 12 1;at 13 2;wall 11;still 17 2;pull 9 0 0 0;", 9, 9);
    }

    private static void refusedForces() {
        B.of("promise 16: to the east (what 0), to the south (1). BAD");
        for (int what : new int[] {-1, 2, 10, Integer.MIN_VALUE, Integer.MAX_VALUE}) B.refused("force(0, " + what + ")", x -> x.force(0, what), BAD);
        for (int p : new int[] {-1, 4, 5, Integer.MIN_VALUE, Integer.MAX_VALUE}) B.refused("force(" + p + ", 0)", x -> x.force(p, 0), BAD);
        B.due("on nobody", new MoodTown().force(0, 0), BAD);
        B.due("the last ONE", Bounds.busy().force(3, 1) >= 0 ? 1 : 0, 1);
    }

    private static void wish(String ones, int way) { B.due(ones + " wish(0)", B.town("town 5 5;pull 1 3 0 0;" + ones).wish(0), way); }

    private static void ties() {
        B.of("2: in columns, if FORCE in columns is not 0 and is, sign aside, no less than that in rows; else in rows");
        wish("at 12 1;at 18 2;", 1);
        wish("at 12 1;at 8 2;", 1);
        wish("at 12 1;at 16 2;", 3);
        wish("at 12 1;at 6 2;", 3);
        wish("at 12 1;at 18 2;at 13 2;", 1);
        wish("at 12 1;at 18 2;at 11 2;", 2);
        wish("at 12 1;at 8 2;at 11 2;", 0);
        wish("at 12 1;at 16 2;at 11 2;", 3);
        wish("at 12 1;at 16 2;at 13 2;", 2);
        wish("at 12 1;at 6 2;at 13 2;", 0);
        wish("at 12 1;at 6 2;at 7 2;", 0);
        wish("at 12 1;at 6 2;at 17 2;", 3);
        B.of("2: else in rows, if that is not 0");
        wish("at 12 1;at 17 2;", 2);
        wish("at 12 1;at 7 2;", 0);
        wish("at 12 1;at 11 2;at 13 2;at 7 2;", 0);
        wish("at 12 1;at 11 2;", 3);
        wish("at 12 1;at 13 2;", 1);
    }

    private static void nowhere() {
        B.of("2: else he WISHES nowhere. STILL ones WISH nowhere");
        wish("at 12 1;", 4);
        wish("at 12 0;at 13 1;", 4);
        wish("at 12 1;at 15 2;", 4);
        wish("at 12 1;at 11 2;at 13 2;", 4);
        wish("at 12 1;at 11 2;at 13 2;at 7 2;at 17 2;", 4);
        wish("still 12 1;at 13 2;", 4);
        B.of("2: WISHES to the next CELL, though it is none of THE TOWN, or a WALL, or not free");
        wish("at 0 1;at 1 1;", 3);
        wish("at 0 1;at 5 1;", 0);
        wish("at 12 1;wall 13;at 14 2;", 1);
        wish("at 12 1;at 13 2;", 1);
    }

    private static void refusedWishes() {
        B.of("promise 17: BAD");
        for (int p : new int[] {-1, 4, 5, Integer.MIN_VALUE, Integer.MAX_VALUE}) B.refused("wish(" + p + ")", x -> x.wish(p), BAD);
        B.due("of nobody", new MoodTown().wish(0), BAD);
    }

    /** Who is STUCK, and where each is behind one STEP. */
    private static void step(String text, int stuck, int... cells) {
        MoodTown x = B.town(text);
        B.due(text + " stuck()", x.stuck(), stuck);
        x.go(1);
        for (int p = 0; p < cells.length; p++) B.due(text + " CELL of " + p, x.one(p, 0), cells[p]);
    }

    private static void edges() {
        B.of("2: goes where he WISHES, if that is a CELL of THE TOWN: no way round from edge to edge");
        step("at 2 1;still 1 1;", 1, 2, 1);
        step("at 3 1;still 4 1;", 1, 3, 4);
        step("at 1 1;still 4 1;", 1, 1, 4);
        step("at 7 1;still 4 1;", 1, 7, 4);
        step("at 0 1;still 1 1;", 1, 0, 1);
        step("at 8 1;still 7 1;", 1, 8, 7);
        step("town 2 5;at 1 1;still 0 1;", 1, 1, 0);
        step("town 2 5;at 2 1;still 3 1;", 1, 2, 3);
        step("town 5 2;at 9 1;still 4 1;", 1, 9, 4);
        step("town 5 2;at 3 1;still 2 1;", 0, 4, 2);
        step("town 5 2;at 4 1;still 3 1;", 1, 4, 3);
        step("town 5 5;at 19 1;still 14 1;", 0, 24, 14);
        step("town 5 5;at 24 1;still 19 1;", 1, 24, 19);
        step("town 5 5;at 5 1;still 10 1;", 0, 0, 10);
    }

    private static void walls() {
        B.of("2: a CELL without WALL");
        step("town 5 2;at 0 1;still 2 2;wall 1;", 1, 0, 2);
        step("town 5 2;at 0 1;still 2 2;wall 6;", 0, 1, 2);
        step("town 5 5;at 24 1;still 14 2;wall 19;", 1, 24, 14);
        step("town 5 5;at 14 1;still 4 1;wall 19;", 1, 14, 4);
        step("town 5 5;at 19 1;still 9 1;wall 24;", 1, 19, 9);
    }

    private static void byThen() {
        B.of("2: ONE by ONE, by order; and nobody is there by then");
        step("town 5 2;at 0 1;at 2 2;", 2, 1, 2);
        step("town 5 2;at 2 2;at 0 1;", 2, 1, 0);
        step("town 5 2;at 1 2;at 0 1;at 3 1;at 4 1;", 12, 2, 1, 3, 4);
        step("town 5 2;at 0 1;at 1 2;at 3 1;at 4 1;", 13, 0, 2, 3, 4);
        B.of("2: two can not change places");
        step("town 5 2;at 0 1;at 1 2;", 3, 0, 1);
        step("town 5 5;at 12 1;at 17 2;", 3, 12, 17);
        B.of("2: all WISHES are by where all are when it begins");
        step("town 5 2;at 0 1;at 4 2;pull 0 0 0 9;", 0, 1, 3);
        step("town 5 2;at 1 1;at 3 2;pull 9 3 0 0;", 2, 2, 3);
    }

    private static void stuckNever() {
        B.of("2: STUCK is who WISHES somewhere and would not go there in the next STEP");
        B.due("nobody", new MoodTown().stuck(), 0);
        B.due("alone", B.town("at 0 1;").stuck(), 0);
        B.due("STILL ones", B.town("still 0 1;still 1 1;").stuck(), 0);
        B.due("without MOOD", B.town("at 0 0;at 1 0;").stuck(), 0);
        B.due("both at the ends of a row", B.town("town 5 2;at 0 1;at 1 2;at 2 1;at 3 2;at 4 1;pull 1 0 0 0;wall 5;wall 6;").stuck(), 17);
        B.due("five of five", B.town("town 2 3;at 0 1;at 1 2;at 2 2;at 3 1;at 4 1;wall 5;").stuck(), 31);
    }

    private static void strain() {
        B.of("2: STRAIN: of all FORCES on all ONES, signs aside, the sum");
        B.due("nobody", new MoodTown().strain(), 0);
        B.due("alone", B.town("at 0 1;").strain(), 0);
        B.due("without MOOD", B.town("at 0 0;at 1 1;").strain(), 0);
        B.due("beyond four", B.town("town 5 5;at 0 1;at 9 2;").strain(), 0);
        B.due("STILL ones too", B.town("still 0 1;still 1 2;").strain(), 8);
        B.due("columns and rows", B.town("at 0 1;at 4 2;").strain(), 12);
        B.due("FORCES that are none together", B.town("town 5 2;at 1 1;at 0 2;at 2 2;pull 4 0 0 0;").strain(), 8);
        MoodTown hung = B.town("at 0 1;at 8 2;pull 1 1 1 1;");
        hung.hang(3, 1, 0);
        B.due("the portrait is no ONE", hung.strain(), 4);
        MoodTown fewer = B.town("at 0 1;at 1 1;");
        B.due("two", fewer.strain(), 8);
        Check.tell(fewer, "at 0 1;");
        B.due("of two one is left", fewer.strain(), 0);
        B.due("five in a row", B.town("town 5 2;at 0 1;at 1 1;at 2 1;at 3 1;at 4 1;pull 9 9 9 9;").strain(), 36 + 18 + 18 + 36);
    }
}
