/** Boundary cases of promises 34 to 40: IMAGES, SHEETS, what the machine refuses, how many. */
public final class BoundsSheetTest {
    private static final Bounds B = new Bounds("BoundsSheetTest");
    private static final int BAD = Bounds.BAD, STATE = Bounds.STATE, NONE = Bounds.NONE;
    private static final int[] NO_SHEETS = {-1, 4, Integer.MIN_VALUE, Integer.MAX_VALUE};
    private static final int[] NO_LANES = {-1, 3, Integer.MIN_VALUE, Integer.MAX_VALUE};

    public static void main(String[] args) {
        keep();
        back();
        sheet();
        lay();
        lowestBits();
        readAll();
        readNone();
        readTorn();
        readLanes();
        readBad();
        readRefused();
        torn();
        count();
        B.close();
    }

    private static void keep() {
        B.of("promise 34: IMAGE k (0, 1): whether there was one (1, 0). BAD");
        MoodTown x = new MoodTown();
        for (int k = 0; k < 2; k++) {
            B.due("keep(" + k + ")", x.keep(k), 0);
            B.due("IMAGES", x.count(3), k + 1);
            B.due("keep(" + k + ") again", x.keep(k), 1);
            B.due("IMAGES are no more", x.count(3), k + 1);
        }
        for (int k : new int[] {-1, 2, 31, 32, Integer.MIN_VALUE, Integer.MAX_VALUE}) B.refused("keep(" + k + ")", y -> y.keep(k), BAD);
    }

    private static void back() {
        B.of("promise 35: All is as IMAGE k: STEP. BAD; STATE: there is none");
        for (int k : new int[] {-1, 2, 31, 32, Integer.MIN_VALUE, Integer.MAX_VALUE}) B.refused("back(" + k + ")", y -> y.back(k), BAD);
        B.refused("back(0)", y -> y.back(0), STATE);
        for (int k = 0; k < 2; k++) B.due("of a new object", new MoodTown().back(k), STATE);
        MoodTown x = B.town("town 5 2;at 0 1;still 4 2;goal 0 1;press 4;");
        for (int i = 0; i < 8; i++) x.see(0, 1);
        for (int i = 0; i < 16; i++) x.go(60);
        x.go(39);
        x.put(0, 0);
        x.keep(0);
        x.forget(0);
        x.put(0, 9);
        x.mood(0, 0);
        x.hold(0, true);
        x.goal(0, NONE);
        x.press(0);
        for (int d = 1; d <= 4; d++) x.pull(d, 0);
        x.wall(0, true);
        for (int i = 0; i < 2; i++) {
            B.due("STEP", x.back(0), 999);
            B.due("WALLS", x.rule(2), 0);
            B.due("CELL", x.one(0, 0), 0);
            B.due("MOOD", x.one(0, 1), 1);
            B.due("STILL", x.one(0, 2), 0);
            B.due("GOAL", x.one(0, 3), 1);
            B.due("PRESS", x.rule(4), 4);
            for (int d = 1; d <= 4; d++) B.due("PULL", x.rule(10 + d), 5 - d);
            B.due("SEEN", x.count(2), 8);
            B.due("what was SEEN", x.moods(0), 6);
            B.due("no more STEPS", x.go(1), Bounds.FULL);
            x.mood(0, 3);
            x.forget(0);
            x.see(0, 4);
            x.wall(9, true);
        }
        B.of("promise 35: THE TAPE, SHEETS, fault(), torn() are in no IMAGE");
        MoodTown y = new MoodTown();
        y.keep(0);
        y.feed('$');
        y.feed('$');
        y.sheet(0, 0, 3);
        y.read(0, 0, 3, 1);
        B.due("STEP", y.back(0), 0);
        B.due("bytes", y.count(4), 2);
        B.due("CELLS", y.count(5), 3);
        B.due("torn()", y.torn(), 2);
    }

    private static void sheet() {
        B.of("promise 36: A SHEET is a new row of CELLS 0: 1. BAD: also n above 40");
        MoodTown x = new MoodTown();
        for (int k = 0; k < 4; k++) for (int lane = 0; lane < 3; lane++) B.due("sheet(" + k + ", " + lane + ", 1)", x.sheet(k, lane, 1), 1);
        for (int n : new int[] {0, 1, 39, 40}) {
            B.due("sheet(0, 0, " + n + ")", x.sheet(0, 0, n), 1);
            B.due("CELLS", x.count(5), n);
            B.due("the CELL behind the last", x.lay(0, n, 1), -12);
            if (n > 0) B.due("the last CELL", x.lay(0, n - 1, 1), 1);
        }
        for (int n : new int[] {41, 42, Integer.MAX_VALUE}) B.refused("sheet(0, 0, " + n + ")", y -> y.sheet(0, 0, n), BAD);
        for (int k : NO_SHEETS) B.refused("sheet(" + k + ", 0, 1)", y -> y.sheet(k, 0, 1), BAD);
        for (int lane : NO_LANES) B.refused("sheet(0, " + lane + ", 1)", y -> y.sheet(0, lane, 1), BAD);
        B.of("promise 36: -10 - 4 (SIZE: below 0)");
        for (int n : new int[] {-1, -40, Integer.MIN_VALUE}) {
            B.refused("sheet(0, 0, " + n + ")", y -> y.sheet(0, 0, n), -14);
            B.refused("of nothing, sheet(1, 2, " + n + ")", y -> y.sheet(1, 2, n), -14);
        }
        B.of("Terms: the first that fits");
        B.refused("sheet(4, 0, -1)", y -> y.sheet(4, 0, -1), BAD);
        B.refused("sheet(0, 3, -1)", y -> y.sheet(0, 3, -1), BAD);
        B.of("promise 36: a new row of CELLS 0");
        MoodTown z = B.town("at 0 3;");
        z.sheet(0, 0, 40);
        for (int i = 0; i < 40; i++) z.lay(0, i, 9);
        z.sheet(0, 0, 40);
        B.due("all are 0", z.read(0, 0, 0, 20), 20);
        B.due("MOOD 0", z.one(0, 1), 0);
    }

    private static void lay() {
        B.of("promise 37: BAD: k; -10 less the FAULT: NULL, INDEX");
        for (int k : NO_SHEETS) B.refused("lay(" + k + ", 0, 0)", x -> x.lay(k, 0, 0), BAD);
        for (int i : new int[] {-1, 0, 40, Integer.MIN_VALUE, Integer.MAX_VALUE}) B.refused("nothing, lay(1, " + i + ", 0)", x -> x.lay(1, i, 0), -11);
        for (int i : new int[] {-1, 6, 40, Integer.MIN_VALUE, Integer.MAX_VALUE}) B.refused("six CELLS, lay(0, " + i + ", 0)", x -> x.lay(0, i, 0), -12);
        for (int i : new int[] {-1, 0, 1}) B.refused("no CELLS, lay(3, " + i + ", 0)", x -> x.lay(3, i, 0), -12);
        MoodTown x = B.town("at 0 1;");
        x.sheet(0, 0, 40);
        B.due("the first CELL", x.lay(0, 0, 0), 1);
        B.due("the last CELL", x.lay(0, 39, 0), 1);
        B.due("one beyond", x.lay(0, 40, 0), -12);
    }

    /** A MOOD laid on a SHEET of a lane, read then: the MOOD, or -20 if it is none. */
    private static void mood(int lane, int v, int want) {
        MoodTown x = B.town("at 0 1;");
        x.sheet(0, lane, 2);
        B.due("lay " + v, x.lay(0, 1, v), 1);
        int came = x.read(0, lane, 0, 1);
        B.due(v + " in lane " + lane, came == 1 ? x.one(0, 1) : came, want);
    }

    private static void lowestBits() {
        B.of("promise 37: becomes v (its lowest bits)");
        int[][] bytes = {{0, 0}, {3, 3}, {4, -20}, {-1, -20}, {127, -20}, {128, -20}, {255, -20}, {256, 0}, {259, 3}, {260, -20},
            {-253, 3}, {-256, 0}, {65538, 2}, {Integer.MIN_VALUE, 0}, {Integer.MAX_VALUE, -20}, {Integer.MIN_VALUE + 3, 3}};
        for (int[] b : bytes) mood(0, b[0], b[1]);
        int[][] shorts = {{0, 0}, {3, 3}, {4, -20}, {-1, -20}, {256, -20}, {259, -20}, {32767, -20}, {32768, -20}, {65535, -20}, {65536, 0},
            {65539, 3}, {-65533, 3}, {-65536, 0}, {Integer.MIN_VALUE, 0}, {Integer.MAX_VALUE, -20}, {Integer.MIN_VALUE + 3, 3}};
        for (int[] s : shorts) mood(1, s[0], s[1]);
        int[][] ints = {{0, 0}, {3, 3}, {4, -20}, {-1, -20}, {256, -20}, {65536, -20}, {65539, -20}, {Integer.MIN_VALUE, -20}, {Integer.MAX_VALUE, -20}};
        for (int[] i : ints) mood(2, i[0], i[1]);
        MoodTown x = B.town("at 0 1;at 1 1;");
        x.sheet(0, 0, 2);
        Bounds.lay(x, 0, 257, 2);
        B.due("257 as a BYTE is ONE 1", x.read(0, 0, 0, 1) * 10 + x.one(1, 1), 12);
    }

    /** SHEET 0 of a lane with pairs of ONE 0 and a MOOD that goes round. */
    private static MoodTown paired(int lane, int cells) {
        MoodTown x = B.town("at 0 1;at 1 1;");
        x.sheet(0, lane, cells);
        for (int i = 1; i < cells; i += 2) x.lay(0, i, i / 2 % 4);
        return x;
    }

    private static void readAll() {
        B.of("promise 38: n (0 to 20) MOODS, two CELLS each from CELL f on: how many came");
        for (int lane = 0; lane < 3; lane++) {
            MoodTown x = paired(lane, 40);
            B.due("all twenty", x.read(0, lane, 0, 20), 20);
            B.due("whole", x.torn(), 0);
            B.due("the last counts", x.one(0, 1), 3);
            B.due("nineteen", x.read(0, lane, 0, 19), 19);
            B.due("the nineteenth counts", x.one(0, 1), 2);
            B.due("one", x.read(0, lane, 0, 1), 1);
            B.due("the first counts", x.one(0, 1), 0);
            B.due("the last pair", x.read(0, lane, 38, 1), 1);
            B.due("whole too", x.torn(), 0);
            B.due("the last pair counts", x.one(0, 1), 3);
        }
    }

    private static void readNone() {
        B.of("promise 38: 0 MOODS");
        for (int f : new int[] {-1, 0, 39, 40, 41, Integer.MIN_VALUE, Integer.MAX_VALUE}) {
            MoodTown x = paired(1, 40);
            B.due("read(0, 1, " + f + ", 0)", x.read(0, 1, f, 0), 0);
            B.due("no CELL is asked for", x.torn(), 0);
            B.due("of nothing", x.read(1, 1, f, 0), 0);
            B.due("no CELL of nothing is asked for", x.torn(), 0);
        }
        MoodTown empty = B.town("at 0 1;");
        empty.sheet(0, 0, 0);
        B.due("of no CELLS, none", empty.read(0, 0, 0, 0), 0);
        B.due("whole", empty.torn(), 0);
        B.due("of no CELLS, one", empty.read(0, 0, 0, 1), 0);
        B.due("INDEX", empty.torn(), 2);
    }

    private static void tornAt(int cells, int f, int n, int came, int fault) {
        MoodTown x = paired(2, cells);
        B.due(cells + " CELLS, read(0, 2, " + f + ", " + n + ")", x.read(0, 2, f, n), came);
        B.due("its FAULT", x.torn(), fault);
        B.due("those came that were whole ahead", x.one(0, 1), came == 0 ? 1 : (f / 2 + came - 1) % 4);
    }

    private static void readTorn() {
        B.of("promise 38: What the machine refuses: those that were whole ahead come");
        tornAt(39, 0, 20, 19, 2);
        tornAt(39, 0, 19, 19, 0);
        tornAt(40, 2, 20, 19, 2);
        tornAt(40, 38, 2, 1, 2);
        tornAt(40, 38, 1, 1, 0);
        tornAt(40, 40, 1, 0, 2);
        tornAt(2, 0, 20, 1, 2);
        tornAt(1, 0, 1, 0, 2);
        tornAt(40, -1, 1, 0, 2);
        tornAt(40, -2, 20, 0, 2);
        for (int f : Bounds.FAR) tornAt(40, f, 20, 0, 2);
        B.of("promise 38: half a pair at the end is not whole, whatever it is");
        MoodTown half = paired(0, 3);
        half.lay(0, 2, 99);
        B.due("the whole one came", half.read(0, 0, 0, 2), 1);
        B.due("INDEX", half.torn(), 2);
    }

    private static void readLanes() {
        B.of("2: 1 NULL (nothing), 3 CAST (another lane)");
        for (int own = 0; own < 3; own++) {
            for (int lane = 0; lane < 3; lane++) {
                MoodTown x = paired(own, 4);
                x.mood(0, 2);
                B.due("lane " + own + " as of " + lane, x.read(0, lane, 0, 1), own == lane ? 1 : 0);
                B.due("its FAULT", x.torn(), own == lane ? 0 : 3);
                B.due("MOOD", x.one(0, 1), own == lane ? 0 : 2);
                B.due("nothing as of " + lane, x.read(3, lane, 0, 1), 0);
                B.due("NULL", x.torn(), 1);
            }
        }
        MoodTown x = paired(0, 4);
        B.due("CAST ahead of INDEX", x.read(0, 1, 99, 1) * 10 + x.torn(), 3);
        B.due("NULL ahead of INDEX", x.read(3, 1, -1, 1) * 10 + x.torn(), 1);
        x.sheet(2, 2, 0);
        B.due("another lane of no CELLS", x.read(2, 0, 0, 1) * 10 + x.torn(), 3);
    }

    private static MoodTown spoilt(int pair, int who, int mood) {
        MoodTown x = paired(0, 40);
        for (int i = 0; i < 40; i += 2) x.lay(0, i + 1, 3);
        x.lay(0, 2 * pair, who);
        x.lay(0, 2 * pair + 1, mood);
        return x;
    }

    private static void readBad() {
        B.of("promise 38: -20 less i: the i-th, whole, is BAD: then none came");
        for (int i : new int[] {0, 1, 18, 19}) {
            for (int[] pair : new int[][] {{2, 1}, {-1, 1}, {0, 4}, {1, -1}, {127, 127}}) {
                B.refused(() -> spoilt(i, pair[0], pair[1]), "pair " + i + " is " + pair[0] + " " + pair[1], x -> x.read(0, 0, 0, 20), -20 - i);
            }
            B.due("ahead of it all came", spoilt(i, 2, 1).read(0, 0, 0, i), i);
        }
        B.due("from CELL 2 on the second is the first", spoilt(1, 2, 1).read(0, 0, 2, 20), -20);
        B.of("promise 38: the first met");
        MoodTown two = spoilt(3, 9, 9);
        two.lay(0, 10, 9);
        B.due("of two that are BAD", two.read(0, 0, 0, 20), -23);
        MoodTown late = B.town("at 0 1;");
        late.sheet(0, 0, 5);
        late.lay(0, 2, 9);
        B.due("BAD ahead of INDEX", late.read(0, 0, 0, 20), -21);
        B.due("CAST ahead of BAD", late.read(0, 1, 2, 1) * 10 + late.torn(), 3);
        B.due("nobody can have a MOOD", readOfNobody(), -20);
        B.of("promise 38: as by mood()");
        MoodTown last = B.town("at 0 1;at 1 2;");
        last.sheet(0, 0, 4);
        Bounds.lay(last, 0, 1, 3, 1, 0);
        B.due("one ONE twice", last.read(0, 0, 0, 2), 2);
        B.due("the later MOOD", last.one(1, 1), 0);
    }

    private static int readOfNobody() {
        MoodTown x = new MoodTown();
        x.sheet(0, 0, 2);
        return x.read(0, 0, 0, 1);
    }

    private static void readRefused() {
        B.of("promise 38: BAD: k, lane, n");
        for (int k : NO_SHEETS) B.refused("read(" + k + ", 0, 0, 1)", x -> x.read(k, 0, 0, 1), BAD);
        for (int lane : NO_LANES) B.refused("read(0, " + lane + ", 0, 1)", x -> x.read(0, lane, 0, 1), BAD);
        for (int n : new int[] {-1, 21, Integer.MIN_VALUE, Integer.MAX_VALUE}) {
            B.refused("read(0, 0, 0, " + n + ")", x -> x.read(0, 0, 0, n), BAD);
            B.refused("of nothing, read(1, 0, 0, " + n + ")", x -> x.read(1, 0, 0, n), BAD);
            B.refused("of another lane, read(0, 1, 0, " + n + ")", x -> x.read(0, 1, 0, n), BAD);
        }
    }

    private static void torn() {
        B.of("promise 39: The FAULT of the latest read() that came to an end; 0");
        B.due("none yet", new MoodTown().torn(), 0);
        MoodTown x = paired(0, 2);
        x.read(3, 0, 0, 1);
        B.due("NULL", x.torn(), 1);
        B.due("asked once more", x.torn(), 1);
        x.read(4, 0, 0, 1);
        B.due("BAD is no end", x.torn(), 1);
        x.lay(0, 0, 9);
        B.due("none came", x.read(0, 0, 0, 1), -20);
        B.due("-20 is no end", x.torn(), 1);
        x.lay(0, 9, 9);
        x.sheet(0, 0, -1);
        x.lay(3, 0, 0);
        B.due("FAULTS of lay() and sheet() are not asked by torn()", x.torn(), 1);
        x.read(0, 1, 0, 1);
        B.due("CAST", x.torn(), 3);
        x.read(0, 0, 2, 1);
        B.due("INDEX", x.torn(), 2);
        x.lay(0, 0, 0);
        x.read(0, 0, 0, 1);
        B.due("whole", x.torn(), 0);
    }

    private static void count() {
        B.of("promise 40: How many. BAD");
        MoodTown x = Bounds.busy();
        int[] counts = {x.go(0), 2, 3, 1, 4, 6, 0};
        for (int what = 0; what < counts.length; what++) B.due("count(" + what + ")", x.count(what), counts[what]);
        for (int what : new int[] {-1, 7, 10, Integer.MIN_VALUE, Integer.MAX_VALUE}) B.refused("count(" + what + ")", y -> y.count(what), BAD);
        B.of("promise 40: 0 ONES at their GOALS, 1 who have GOALS, 6 who have no MOOD");
        MoodTown five = B.town("at 0 0;at 1 0;at 2 0;at 3 0;at 4 0;goal 0 0;goal 1 1;goal 2 2;goal 3 3;goal 4 4;");
        for (int what : new int[] {0, 1, 6}) B.due("all five, count(" + what + ")", five.count(what), 5);
        MoodTown none = B.town("at 0 1;at 1 2;at 2 3;");
        for (int what : new int[] {0, 1, 6}) B.due("none, count(" + what + ")", none.count(what), 0);
        for (int what : new int[] {0, 1, 6}) B.due("nobody, count(" + what + ")", new MoodTown().count(what), 0);
        B.of("promise 40: 5 CELLS of SHEET 0 (NONE: nothing)");
        MoodTown sheets = new MoodTown();
        for (int k = 1; k < 4; k++) sheets.sheet(k, 0, 7);
        B.due("of the others it is not asked", sheets.count(5), NONE);
        sheets.sheet(0, 0, 0);
        B.due("no CELLS are not nothing", sheets.count(5), 0);
        sheets.sheet(0, 2, 40);
        B.due("the most", sheets.count(5), 40);
        B.of("promise 40: 2 SEEN, 3 IMAGES, 4 bytes on THE TAPE");
        MoodTown full = B.town("at 0 1;");
        for (int i = 0; i < 9; i++) full.see(0, 4);
        for (int i = 0; i < 161; i++) full.feed(32);
        full.keep(0);
        full.keep(1);
        int[] most = {8, 2, 160};
        for (int i = 0; i < 3; i++) B.due("the most, count(" + (i + 2) + ")", full.count(i + 2), most[i]);
    }
}
