import java.math.BigInteger;

/** Boundary cases of promises 30 to 33: what is SEEN, MOODS that FIT, crowds by a seed. */
public final class BoundsSeenTest {
    private static final Bounds B = new Bounds("BoundsSeenTest");
    private static final int BAD = Bounds.BAD, STATE = Bounds.STATE, FULL = Bounds.FULL;

    public static void main(String[] args) {
        see();
        seeFull();
        forget();
        moods();
        ways();
        moodsRefused();
        crowdTimes();
        crowdBits();
        crowdMoods();
        crowdRefused();
        B.close();
    }

    private static void see() {
        B.of("promise 30: SEEN: one more: how many are. BAD");
        MoodTown x = B.town("at 0 1;at 8 1;");
        for (int way = 0; way <= 4; way++) B.due("see(0, " + way + ")", x.see(0, way), way + 1);
        B.due("the last ONE", x.see(1, 4), 6);
        for (int way : new int[] {-1, 5, Integer.MIN_VALUE, Integer.MAX_VALUE}) B.refused("see(0, " + way + ")", y -> y.see(0, way), BAD);
        for (int p : new int[] {-1, 4, 5, Integer.MIN_VALUE, Integer.MAX_VALUE}) B.refused("see(" + p + ", 0)", y -> y.see(p, 0), BAD);
        B.due("of nobody", new MoodTown().see(0, 4), BAD);
    }

    private static MoodTown eightSeen() {
        MoodTown x = B.town("town 5 2;at 0 1;at 4 1;");
        for (int i = 0; i < 8; i++) x.see(i % 2, 4);
        return x;
    }

    private static void seeFull() {
        B.of("2: SEEN (8); promise 30: FULL");
        MoodTown x = B.town("at 0 1;at 8 1;");
        for (int i = 1; i <= 8; i++) B.due("the same once more", x.see(0, 4), i);
        B.due("the ninth", x.see(0, 4), FULL);
        B.refused(BoundsSeenTest::eightSeen, "the ninth", y -> y.see(0, 1), FULL);
        B.of("Terms: the first that fits");
        B.refused(BoundsSeenTest::eightSeen, "the ninth, a way that is none", y -> y.see(0, 5), BAD);
        B.refused(BoundsSeenTest::eightSeen, "the ninth, a ONE who is none", y -> y.see(2, 0), BAD);
        B.of("promise 30: FULL no more, when some are forgotten");
        MoodTown y = eightSeen();
        y.forget(7);
        B.due("the eighth", y.see(0, 4), 8);
        B.due("the ninth", y.see(0, 4), FULL);
    }

    private static void forget() {
        B.of("promise 31: SEEN are the first n alone: how many there were. BAD");
        B.due("none of none", new MoodTown().forget(0), 0);
        B.due("one of none", new MoodTown().forget(1), BAD);
        MoodTown x = eightSeen();
        B.due("all eight", x.forget(8), 8);
        B.due("nine of eight", x.forget(9), BAD);
        B.due("seven", x.forget(7), 8);
        B.due("eight of seven", x.forget(8), BAD);
        B.due("none", x.forget(0), 7);
        B.due("none are left", x.forget(0), 0);
        B.refused("forget(-1)", y -> y.forget(-1), BAD);
        B.refused("forget(4) of 3", y -> y.forget(4), BAD);
        B.refused("forget(3) of 3 keeps all", y -> y.forget(3), 3);
        for (int n : Bounds.FAR) B.refused("forget(" + n + ")", y -> y.forget(n), BAD);
        MoodTown first = B.town("town 5 2;at 0 1;at 4 1;");
        first.see(0, 1);
        first.see(0, 4);
        B.due("both can not be", first.moods(0), 0);
        first.forget(1);
        B.due("the first is left", first.moods(0), 6);
    }

    private static void moods() {
        B.of("promise 32: MOODS (0 to 3) of all that FIT: how many");
        String[] ones = {"", "at 0 1;", "at 1 1;", "at 2 1;", "at 3 1;", "at 4 1;"};
        StringBuilder text = new StringBuilder();
        int all = 1;
        for (int people = 0; people <= 5; people++) {
            text.append(ones[people]);
            B.due("nothing SEEN, PEOPLE " + people, B.town(text.toString()).moods(0), all);
            for (int p = 0; p < people; p++) B.due("he can have all", B.town(text.toString()).moods(10 + p), 15);
            all *= 4;
        }
        MoodTown none = B.town("at 0 1;at 1 1;");
        none.see(0, 4);
        none.see(0, 1);
        B.due("none FIT", none.moods(0), 0);
        B.due("none, 0", none.moods(10), 0);
        B.due("none, 1", none.moods(11), 0);
        MoodTown eight = eightSeen();
        B.due("eight are SEEN, the last too", eight.moods(0), 10);
        eight.forget(7);
        eight.see(1, 3);
        B.due("the eighth speaks against all", eight.moods(0), 0);
        MoodTown zero = B.town("town 5 2;at 0 1;still 4 1;");
        zero.see(0, 1);
        B.due("0 draws nobody", zero.moods(10), 14);
    }

    private static void fit(String text, int p, int way, int many) {
        MoodTown x = B.town(text);
        x.see(p, way);
        B.due(text + " see(" + p + ", " + way + ")", x.moods(0), many);
    }

    private static void ways() {
        B.of("2: what a ONE does in the next STEP: 0 goes north, 1 east, 2 south, 3 west, 4 stays");
        int[] partners = {2, 14, 22, 10};
        for (int way = 0; way < 4; way++) {
            String text = "town 5 5;at 12 1;still " + partners[way] + " 1;";
            fit(text, 0, way, 6);
            fit(text, 0, (way + 2) % 4, 3);
            fit(text, 0, (way + 1) % 4, 0);
            fit(text, 0, 4, 7);
            fit(text, 1, 4, 16);
        }
        B.of("2: what he does, not what he WISHES: at an edge, at a WALL, behind another he stays");
        fit("town 5 2;at 0 1;still 2 1;", 0, 4, 10);
        fit("town 5 2;at 0 1;still 2 1;", 0, 3, 0);
        fit("town 5 2;at 0 1;still 2 1;wall 1;", 0, 4, 16);
        fit("town 5 2;at 0 1;still 1 1;", 0, 4, 16);
        B.of("2: all else as it is");
        MoodTown x = B.town("town 5 2;at 0 1;at 4 1;");
        x.see(0, 1);
        x.hold(0, true);
        B.due("STILL now", x.moods(0), 0);
        x.hold(0, false);
        x.wall(1, true);
        B.due("a WALL now", x.moods(0), 0);
        x.wall(1, false);
        x.pull(4, 0);
        B.due("no PULL now", x.moods(0), 0);
        x.pull(4, 9);
        B.due("as it was", x.moods(0), 6);
    }

    private static void moodsRefused() {
        B.of("promise 32: 10 and p. BAD");
        for (int what : new int[] {-1, 1, 9, 14, 15, Integer.MIN_VALUE, Integer.MAX_VALUE}) B.refused("moods(" + what + ")", x -> x.moods(what), BAD);
        B.due("the last ONE", Bounds.busy().moods(13) >= 0 ? 1 : 0, 1);
        B.due("of nobody", new MoodTown().moods(10), BAD);
    }

    /** The same by mood() and go() on another object. */
    private static void crowdOf(String text, int seed, int n) {
        MoodTown x = B.town(text);
        MoodTown y = B.town(text);
        int people = y.rule(3);
        int s = seed;
        int went = 0;
        for (int i = 0; i < n; i++) {
            s = s * 1103515245 + 12345;
            int p = (s >> 16 & 0x7FFF) % people;
            y.mood(p, (y.one(p, 1) + 1) % 4);
            int[] before = new int[people];
            for (int q = 0; q < people; q++) before[q] = y.ahead(q, 0, 0);
            for (int q = 0; q < people; q++) went += before[q] != y.ahead(q, 1, 0) ? 1 : 0;
            y.go(1);
            if (i % 10 == 9) y = copy(y, text);
        }
        B.due(text + " crowd(" + seed + ", " + n + ")", x.crowd(seed, n), went);
    }

    /** A new object with the same CELLS and MOODS: an object answers to 512 calls alone. */
    private static MoodTown copy(MoodTown x, String text) {
        MoodTown y = B.town(text);
        int people = x.rule(3);
        int[] cells = new int[people];
        for (int p = 0; p < people; p++) {
            cells[p] = x.one(p, 0);
            y.mood(p, x.one(p, 1));
        }
        for (int round = 0; round < people; round++) for (int p = 0; p < people; p++) y.put(p, cells[p]);
        for (int p = 0; p < people; p++) B.due("copied", y.one(p, 0), cells[p]);
        return y;
    }

    private static void crowdTimes() {
        B.of("promise 33: n times (1 to 60)");
        String text = "town 5 5;at 12 1;at 18 2;at 7 3;press 2;";
        for (int seed : new int[] {0, 1, -1, Integer.MIN_VALUE, Integer.MAX_VALUE}) {
            for (int n : new int[] {1, 2, 59, 60}) crowdOf(text, seed, n);
        }
        for (int n : new int[] {1, 59, 60}) crowdOf("town 5 5;at 12 1;at 13 2;at 7 3;at 0 1;at 24 2;", 7, n);
        B.due("one alone", B.town("at 4 1;").crowd(1, 60), 0);
        B.due("STILL ones", B.town("still 4 1;still 5 2;").crowd(1, 60), 0);
    }

    /** The seed that becomes a told number at once. */
    private static int seedFor(int becomes) {
        BigInteger all = BigInteger.ONE.shiftLeft(32);
        BigInteger back = BigInteger.valueOf(1103515245).modInverse(all);
        return BigInteger.valueOf(becomes - 12345).multiply(back).mod(all).intValue();
    }

    private static void crowdBits() {
        B.of("promise 33: bits 16 to 30 of it modulo PEOPLE");
        // ONE 0 in a corner, the others four far from him: three, two, one go if it is his MOOD, that of ONE 1, of ONE 2
        String text = "town 5 5;at 0 1;at 4 1;at 20 1;pull 0 0 0 1;";
        int[][] cases = {{0, 3}, {0xFFFF, 3}, {0x10000, 2}, {0x1FFFF, 2}, {0x20000, 1}, {0x30000, 3},
            {0x7FFF0000, 2}, {0x7FFE0000, 3}, {0x80000000, 3}, {0x80010000, 2}, {0xFFFF0000, 2}, {0xFFFFFFFF, 2}, {0xC0000000, 2}};
        for (int[] c : cases) {
            int seed = seedFor(c[0]);
            B.due("a seed is found", seed * 1103515245 + 12345, c[0]);
            B.due("it becomes " + Integer.toHexString(c[0]), B.town(text).crowd(seed, 1), c[1]);
        }
    }

    private static void crowdMoods() {
        B.of("promise 33: that ONE's MOOD becomes 1 more (of 3: 0)");
        int[] went = {0, 2, 2, 0};
        for (int m = 0; m <= 3; m++) {
            // seed 0 becomes 12345, whose bits from 16 on are 0: ONE 0
            B.due("of " + m, B.town("town 5 2;at 0 " + m + ";at 4 1;").crowd(0, 1), went[m]);
        }
        B.of("promise 33: By itself");
        B.refused("crowd(0, 60) leaves all as it was", x -> x.crowd(0, 60) * 0, 0);
        MoodTown x = B.town("town 5 2;at 0 1;at 4 1;");
        for (int i = 0; i < 3; i++) B.due("the same each time", x.crowd(0, 1), 2);
    }

    private static void crowdRefused() {
        B.of("promise 33: BAD; STATE: there is nobody");
        for (int n : new int[] {-1, 0, 61, Integer.MIN_VALUE, Integer.MAX_VALUE}) {
            B.refused("crowd(1, " + n + ")", x -> x.crowd(1, n), BAD);
            B.due("of nobody, BAD first", new MoodTown().crowd(1, n), BAD);
        }
        for (int n : new int[] {1, 60}) B.refused(MoodTown::new, "of nobody " + n, x -> x.crowd(1, n), STATE);
    }
}
