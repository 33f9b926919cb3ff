/** Promises 30 to 33: what is SEEN, MOODS told from it, crowds by a seed. */
public final class SeenTest {
    private static final Check CHECK = new Check("SeenTest");

    private static void due(String call, long got, long want) { CHECK.due(call, got, want); }

    public static void main(String[] args) {
        seenAndForgotten();
        fitting();
        crowds();
        CHECK.close();
    }

    private static void seenAndForgotten() {
        MoodTown x = CHECK.town("at 0 1;at 8 1;");
        due("see(2, 0)", x.see(2, 0), MoodTown.BAD);
        due("see(-1, 0)", x.see(-1, 0), MoodTown.BAD);
        due("see(0, 5)", x.see(0, 5), MoodTown.BAD);
        due("see(0, -1)", x.see(0, -1), MoodTown.BAD);
        for (int i = 1; i <= 8; i++) due("see " + i, x.see(i % 2, 4), i);
        due("see 9", x.see(0, 4), MoodTown.FULL);
        due("see 9, BAD", x.see(0, 5), MoodTown.BAD);
        due("forget(9)", x.forget(9), MoodTown.BAD);
        due("forget(-1)", x.forget(-1), MoodTown.BAD);
        due("forget(8)", x.forget(8), 8);
        due("forget(3)", x.forget(3), 8);
        due("forget(4)", x.forget(4), MoodTown.BAD);
        due("count(2)", x.count(2), 3);
        due("see more", x.see(0, 0), 4);
        due("forget(0)", x.forget(0), 4);
        due("count(2) then", x.count(2), 0);
    }

    private static void fitting() {
        MoodTown x = CHECK.town("town 5 2;at 0 1;at 4 1;");
        due("nothing SEEN", x.moods(0), 16);
        due("nothing SEEN, 10", x.moods(10), 15);
        x.see(0, 1);
        due("draws", x.moods(0), 6);
        due("draws, 10", x.moods(10), 14);
        due("draws, 11", x.moods(11), 14);
        x.see(1, 4);
        due("against it", x.moods(0), 0);
        due("against it, 10", x.moods(10), 0);
        x.forget(0);
        x.see(0, 4);
        due("who is pushed out of the town stays", x.moods(0), 10);
        due("stays, 10", x.moods(10), 15);
        due("MOODS stay", x.one(1, 1), 1);
        for (int what : new int[] {-1, 1, 9, 12, 14, Integer.MIN_VALUE}) due("moods(" + what + ")", x.moods(what), MoodTown.BAD);
        due("what MOODS at once", CHECK.town("town 5 5;at 12 1;at 14 1;").moods(10), 15);
        due("nobody", new MoodTown().moods(0), 1);
        due("nobody, 10", new MoodTown().moods(10), MoodTown.BAD);
        // goes (not WISHES) is what is SEEN: ONE 0 is in the way of ONE 1
        MoodTown two = CHECK.town("town 5 2;at 0 1;at 2 1;wall 5;wall 6;wall 7;");
        two.see(0, 1);
        two.see(1, 4);
        due("one comes, one stays", two.moods(0), 6);
        due("all five", CHECK.town("at 0 1;at 1 1;at 2 1;at 3 1;at 4 1;").moods(0), 1024);
        MoodTown ways = CHECK.town("town 5 5;at 12 1;still 2 2;");
        ways.see(0, 0);
        due("north", ways.moods(0), 6);
        ways.forget(0);
        ways.see(0, 2);
        due("south", ways.moods(0), 3);
        due("south, 11", ways.moods(11), 14);
        ways.put(1, 14);
        ways.forget(0);
        ways.see(0, 3);
        due("west", ways.moods(0), 3);
    }

    private static void crowds() {
        MoodTown alone = CHECK.town("at 4 1;");
        due("crowd of one", alone.crowd(99, 6), 0);
        // 12345 has no bits from 16 on: ONE 0 is meant, and the two, of one MOOD until then, draw each other
        MoodTown two = CHECK.town("town 5 2;at 0 1;at 4 1;");
        due("crowd(0, 1)", two.crowd(0, 1), 2);
        due("crowd(0, 1) once more", two.crowd(0, 1), 2);
        due("of 3: 0, whom nobody draws", CHECK.town("town 5 2;at 0 3;at 4 1;").crowd(0, 1), 0);
        bySeed("town 5 5;at 12 1;at 13 2;at 7 3;at 0 1;at 24 2;press 2;", 7, 24);
        bySeed("town 5 5;at 12 1;at 13 2;at 7 3;at 0 1;at 24 2;", Integer.MIN_VALUE, 24);
        bySeed("town 4 5;at 12 1;at 13 2;at 7 3;wall 3;", -1, 17);
        due("crowd(1, 0)", two.crowd(1, 0), MoodTown.BAD);
        due("crowd(1, -1)", two.crowd(1, -1), MoodTown.BAD);
        due("crowd(1, 61)", two.crowd(1, 61), MoodTown.BAD);
        due("crowd of nobody", new MoodTown().crowd(1, 1), MoodTown.STATE);
        due("crowd of nobody, BAD", new MoodTown().crowd(1, 61), MoodTown.BAD);
        crowdsByThemselves();
    }

    /** What a crowd does is done by itself: the town stays, and STEP does not hinder it. */
    private static void crowdsByThemselves() {
        MoodTown x = CHECK.town("town2 2;at0 1;at1 1;at2 2;pull5 0 0 0;");
        due("nobody went", x.crowd(0, 1), 0);
        due("MOOD is as it was", x.mood(0, 0), 1);
        MoodTown late = CHECK.town("town 5 2;at 0 1;at 4 1;goal 0 0;");
        late.keep(1);
        late.see(1, 4);
        for (int i = 0; i < 16; i++) late.go(60);
        due("STEP 999", late.go(39), 1);
        due("crowd at STEP 999", late.crowd(0, 1), 2);
        due("STEP stays", late.rule(5), 999);
        due("ONE 0 stays", late.one(0, 0) * 10 + late.one(0, 1), 1);
        due("ONE 1 stays", late.one(1, 0) * 10 + late.one(1, 1), 41);
        due("at his GOAL he stays", late.count(0), 1);
        due("SEEN stays", late.count(2), 1);
        due("IMAGES stay", late.count(3), 1);
        due("go(0) behind it", late.go(0), 1);
    }

    /** The same by other calls: mood() and go() on a second object. */
    private static void bySeed(String text, int seed, int n) {
        MoodTown x = CHECK.town(text);
        MoodTown y = CHECK.town(text);
        int s = seed;
        int went = 0;
        for (int i = 0; i < n; i++) {
            s = s * 1103515245 + 12345;
            int p = (s >> 16 & 0x7FFF) % y.rule(3);
            y.mood(p, (y.one(p, 1) + 1) % 4);
            int[] before = new int[y.rule(3)];
            for (int q = 0; q < before.length; q++) before[q] = y.one(q, 0);
            y.go(1);
            for (int q = 0; q < before.length; q++) if (before[q] != y.one(q, 0)) went++;
        }
        due(text + " crowd(" + seed + ", " + n + ")", x.crowd(seed, n), went);
        MoodTown fresh = CHECK.town(text);
        for (int q = 0; q < fresh.rule(3); q++) {
            due(text + " CELL " + q, x.one(q, 0), fresh.one(q, 0));
            due(text + " MOOD " + q, x.one(q, 1), fresh.one(q, 1));
        }
        due(text + " STEP", x.rule(5), 0);
    }
}
