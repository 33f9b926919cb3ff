/** Promises 34 to 40: IMAGES, SHEETS, what the machine refuses, how many. */
public final class SheetTest {
    private static final Check CHECK = new Check("SheetTest");

    private static void due(String call, long got, long want) { CHECK.due(call, got, want); }

    public static void main(String[] args) {
        images();
        newSheets();
        laid();
        readMoods();
        tornReads();
        counts();
        CHECK.close();
    }

    private static void images() {
        MoodTown x = CHECK.town("town 5 2;at 0 1;at 4 2;goal 0 1;wall 7;press 2;pull 1 2 3 4;");
        for (int k : new int[] {-1, 2}) {
            due("keep(" + k + ")", x.keep(k), MoodTown.BAD);
            due("back(" + k + ")", x.back(k), MoodTown.BAD);
        }
        due("back(1)", x.back(1), MoodTown.STATE);
        x.see(0, 1);
        x.go(1);
        due("keep(1)", x.keep(1), 0);
        due("count(3)", x.count(3), 1);
        due("back(0)", x.back(0), MoodTown.STATE);
        x.go(4);
        x.put(0, 9);
        x.mood(0, 3);
        x.hold(1, true);
        x.goal(0, MoodTown.NONE);
        x.goal(1, 2);
        x.wall(7, false);
        x.wall(8, true);
        x.pull(2, 9);
        x.press(0);
        x.see(1, 1);
        due("keep(0)", x.keep(0), 0);
        due("count(3) then", x.count(3), 2);
        due("back(1)", x.back(1), 1);
        int[] rules = {5, 2, 1 << 7, 2, 2, 1};
        for (int i = 0; i < rules.length; i++) due("rule(" + i + ")", x.rule(i), rules[i]);
        for (int d = 1; d <= 4; d++) due("rule(1" + d + ")", x.rule(10 + d), d);
        int[][] ones = {{1, 1, 0, 1}, {3, 2, 0, MoodTown.NONE}};
        for (int p = 0; p < 2; p++) for (int i = 0; i < 4; i++) due("one(" + p + ", " + i + ")", x.one(p, i), ones[p][i]);
        due("SEEN", x.count(2), 1);
        due("what was SEEN", x.moods(0), 6);
        x.forget(0);
        x.see(1, 4);
        x.back(1);
        due("SEEN once more", x.moods(0), 6);
        x.put(0, 0);
        due("SEEN from another place", x.moods(0), 6);
        due("back(0) then", x.back(0), 5);
        due("STILL", x.one(1, 2), 1);
        due("SEEN there", x.count(2), 2);
        due("WALLS there", x.rule(2), 1 << 8);
        x.mood(0, 0);
        due("an IMAGE stays as it was", x.back(0) * 10 + x.one(0, 1), 53);
        due("keep(1) again", x.keep(1), 1);
    }

    private static void newSheets() {
        MoodTown x = new MoodTown();
        int[][] bad = {{-1, 0, 1}, {4, 0, 1}, {0, -1, 1}, {0, 3, 1}, {0, 0, 41}, {0, 3, -1}, {4, 0, -1}, {0, 0, Integer.MAX_VALUE}};
        for (int[] b : bad) due("sheet of " + b[0] + " " + b[1] + " " + b[2], x.sheet(b[0], b[1], b[2]), MoodTown.BAD);
        due("sheet(0, 0, -1)", x.sheet(0, 0, -1), -14);
        due("sheet(0, 2, MIN)", x.sheet(0, 2, Integer.MIN_VALUE), -14);
        due("count(5)", x.count(5), MoodTown.NONE);
        due("sheet(0, 2, 40)", x.sheet(0, 2, 40), 1);
        due("count(5) then", x.count(5), 40);
        due("sheet(0, 1, -1)", x.sheet(0, 1, -1), -14);
        due("count(5) stays", x.count(5), 40);
        due("sheet(0, 0, 0)", x.sheet(0, 0, 0), 1);
        due("count(5) of none", x.count(5), 0);
    }

    private static void laid() {
        MoodTown x = CHECK.town("at 0 1;");
        due("lay(-1, 0, 0)", x.lay(-1, 0, 0), MoodTown.BAD);
        due("lay(4, 0, 0)", x.lay(4, 0, 0), MoodTown.BAD);
        due("lay on nothing", x.lay(3, -1, 0), -11);
        x.sheet(3, 0, 2);
        due("lay(3, -1, 0)", x.lay(3, -1, 0), -12);
        due("lay(3, 2, 0)", x.lay(3, 2, 0), -12);
        due("lay(3, MAX, 0)", x.lay(3, Integer.MAX_VALUE, 0), -12);
        due("lay(3, 1, 258)", x.lay(3, 1, 258), 1);
        due("258 as a BYTE is 2", x.read(3, 0, 0, 1) * 10 + x.one(0, 1), 12);
        x.lay(3, 1, 128);
        due("128 as a BYTE is -128", x.read(3, 0, 0, 1), -20);
        x.sheet(3, 1, 2);
        x.lay(3, 1, 65536 + 3);
        due("65539 as a SHORT is 3", x.read(3, 1, 0, 1) * 10 + x.one(0, 1), 13);
        x.lay(3, 1, 258);
        due("258 as a SHORT is 258", x.read(3, 1, 0, 1), -20);
        x.sheet(3, 2, 2);
        due("a new row is of CELLS 0", x.read(3, 2, 0, 1) * 10 + x.one(0, 1), 10);
        x.lay(3, 1, 65536 + 3);
        due("65539 as an INT is 65539", x.read(3, 2, 0, 1), -20);
        x.lay(3, 0, 256);
        x.lay(3, 1, 1);
        due("256 as an INT is 256", x.read(3, 2, 0, 1), -20);
    }

    private static void lay(MoodTown x, int k, int... cells) {
        for (int i = 0; i < cells.length; i++) x.lay(k, i, cells[i]);
    }

    private static void readMoods() {
        MoodTown x = CHECK.town("at 0 1;at 1 1;at 2 1;");
        x.sheet(2, 1, 9);
        lay(x, 2, 9, 0, 2, 1, 3, 0, 0, 2, 2);
        int[][] bad = {{-1, 1, 1, 1}, {4, 1, 1, 1}, {2, -1, 1, 1}, {2, 3, 1, 1}, {2, 1, 1, -1}, {2, 1, 1, 21}};
        for (int[] b : bad) due("read of " + b[0] + " " + b[1] + " " + b[2] + " " + b[3], x.read(b[0], b[1], b[2], b[3]), MoodTown.BAD);
        due("read(2, 1, 1, 4)", x.read(2, 1, 1, 4), 4);
        due("the later counts", x.one(0, 1), 0);
        due("ONE 1", x.one(1, 1), 3);
        due("ONE 2", x.one(2, 1), 2);
        due("torn()", x.torn(), 0);
        due("read none", x.read(2, 1, -7, 0), 0);
        due("torn() of none", x.torn(), 0);
        due("the first is BAD", x.read(2, 1, 0, 1), -20);
        lay(x, 2, 0, 1, 1, 2, 2, 4, 0, 3, 0);
        due("the third is BAD", x.read(2, 1, 0, 4), -22);
        due("none came", x.one(1, 1), 3);
        due("two are read", x.read(2, 1, 0, 2), 2);
        due("both came", x.one(0, 1) * 10 + x.one(1, 1), 12);
        lay(x, 2, 3, 1);
        due("no such ONE", x.read(2, 1, 0, 1), -20);
        lay(x, 2, -1, 1);
        due("no ONE below 0", x.read(2, 1, 0, 1), -20);
        lay(x, 2, 0, -1);
        due("no MOOD below 0", x.read(2, 1, 0, 1), -20);
    }

    private static void tornReads() {
        MoodTown x = CHECK.town("at 0 1;at 1 1;");
        x.sheet(0, 0, 5);
        lay(x, 0, 0, 2, 1, 3, 7);
        due("whole ones come", x.read(0, 0, 0, 20), 2);
        due("INDEX", x.torn(), 2);
        due("they came", x.one(0, 1) * 10 + x.one(1, 1), 23);
        due("BAD leaves torn()", x.read(0, 0, 0, 21) * 10 + x.torn(), -8);
        x.lay(0, 1, 1);
        x.lay(0, 3, 9);
        due("the BAD one is met first", x.read(0, 0, 0, 20), -21);
        due("refused: torn() stays", x.torn(), 2);
        due("refused: none came", x.one(0, 1), 2);
        due("another lane", x.read(0, 2, 0, 3), 0);
        due("CAST", x.torn(), 3);
        due("refused by the lane", x.read(0, 3, 0, 1) * 10 + x.torn(), -7);
        due("nothing", x.read(1, 2, 0, 3), 0);
        due("NULL", x.torn(), 1);
        due("a good one", x.read(0, 0, 0, 1), 1);
        due("no FAULT then", x.torn(), 0);
        due("before the first CELL", x.read(0, 0, -1, 1), 0);
        due("INDEX there", x.torn(), 2);
        due("the second CELL is beyond", x.read(0, 0, 4, 1), 0);
        due("INDEX beyond", x.torn(), 2);
        due("far beyond", x.read(0, 0, Integer.MAX_VALUE, 20), 0);
        due("far below", x.read(0, 0, Integer.MIN_VALUE, 20), 0);
        due("none of another lane", x.read(0, 1, 0, 0) * 10 + x.torn(), 3);
        due("none of nothing", x.read(1, 1, 0, 0) * 10 + x.torn(), 0);
    }

    private static void counts() {
        MoodTown x = CHECK.town("town 5 2;at 0 1;at 4 0;at 9 0;goal 0 0;goal 1 3;");
        int[] counts = {1, 2, 0, 0, 0, MoodTown.NONE, 2};
        for (int i = 0; i < counts.length; i++) due("count(" + i + ")", x.count(i), counts[i]);
        x.see(0, 1);
        x.see(0, 1);
        x.keep(0);
        x.keep(1);
        x.keep(1);
        x.feed(1);
        x.feed(1);
        x.feed(1);
        x.sheet(0, 2, 17);
        x.put(1, 3);
        x.mood(1, 1);
        int[] more = {2, 2, 2, 2, 3, 17, 1};
        for (int i = 0; i < more.length; i++) due("then count(" + i + ")", x.count(i), more[i]);
        for (int what : new int[] {-1, 7, Integer.MAX_VALUE}) due("count(" + what + ")", x.count(what), MoodTown.BAD);
    }
}
