/** Promises 1 to 8: a new object, THE TAPE, the text and its FAULTS, what can be asked. */
public final class TextTest {
    private static final Check CHECK = new Check("TextTest");

    private static void due(String call, long got, long want) { CHECK.due(call, got, want); }

    public static void main(String[] args) {
        newObject();
        feedAndEnd();
        takenTexts();
        noTokens();
        outOfPlace();
        outOfBounds();
        twice();
        missing();
        asked();
        CHECK.close();
    }

    private static void newObject() {
        MoodTown x = new MoodTown();
        int[] rules = {3, 3, 0, 0, 0, 0};
        for (int i = 0; i < rules.length; i++) due("new: rule(" + i + ")", x.rule(i), rules[i]);
        for (int d = 1; d <= 4; d++) due("new: rule(1" + d + ")", x.rule(10 + d), 5 - d);
        int[] counts = {0, 0, 0, 0, 0, MoodTown.NONE, 0};
        for (int i = 0; i < counts.length; i++) due("new: count(" + i + ")", x.count(i), counts[i]);
        due("new: fault()", x.fault(), 0);
        due("new: torn()", x.torn(), 0);
        for (int k = 0; k < 4; k++) due("new: lay(" + k + ", 0, 0)", x.lay(k, 0, 0), -11);
        due("new: one(0, 0)", x.one(0, 0), MoodTown.BAD);
        due("new: cell(8)", x.cell(8), MoodTown.NONE);
        due("new: cell(9)", x.cell(9), MoodTown.BAD);
        due("new: back(0)", x.back(0), MoodTown.STATE);
        due("new: rest()", x.rest(), 0);
        due("new: strain()", x.strain(), 0);
        due("new: stuck()", x.stuck(), 0);
        due("new: out()", x.out(), 0);
    }

    private static void feedAndEnd() {
        MoodTown x = new MoodTown();
        due("feed(-1)", x.feed(-1), MoodTown.BAD);
        due("feed(128)", x.feed(128), MoodTown.BAD);
        due("feed(0)", x.feed(0), 1);
        due("feed(127)", x.feed(127), 2);
        due("end(3)", x.end(3), MoodTown.BAD);
        due("end(-1)", x.end(-1), MoodTown.BAD);
        due("end(2)", x.end(2), 2);
        due("end(0)", x.end(0), 2);
        due("end(0) of none", x.end(0), 0);
        for (int i = 1; i <= 160; i++) due("feed " + i, x.feed(32), i);
        due("feed 161", x.feed(32), MoodTown.FULL);
        due("feed 161, not a byte", x.feed(200), MoodTown.BAD);
        due("count(4)", x.count(4), 160);
        due("160 blanks", x.text(), 0);
        due("empty then", x.count(4), 0);
        for (char c : "town 2 5;wall".toCharArray()) x.feed(c);
        due("end(9)", x.end(9), 13);
        due("its first nine", x.text(), 1);
        due("HIGH", x.rule(1), 5);
        cutOff("town 2 22", 8, -18, 2);
        cutOff("town 2 2;x", 9, 1, 0);
        cutOff("town 2 2;  ", 10, 1, 0);
        cutOff("townx", 4, -14, 2);
    }

    /** What end() took away is not read, though it stood there. */
    private static void cutOff(String text, int n, int answer, int fault) {
        MoodTown x = new MoodTown();
        for (char c : text.toCharArray()) x.feed(c);
        x.end(n);
        due("'" + text + "' to " + n, x.text(), answer);
        due("its fault()", x.fault(), fault);
    }

    private static void takenTexts() {
        MoodTown x = new MoodTown();
        due("a text", Check.tell(x, "goal 1 19 ;at 19 3;still 0 0;wall 7;wall 18;town 4 5;pull 9 0 5 7;press 4;"), 8);
        int[] rules = {4, 5, (1 << 7) + (1 << 18), 2, 4, 0};
        for (int i = 0; i < rules.length; i++) due("rule(" + i + ")", x.rule(i), rules[i]);
        int[] pulls = {9, 0, 5, 7};
        for (int d = 1; d <= 4; d++) due("rule(1" + d + ")", x.rule(10 + d), pulls[d - 1]);
        int[][] ones = {{19, 3, 0, MoodTown.NONE}, {0, 0, 1, 19}};
        for (int p = 0; p < 2; p++) for (int i = 0; i < 4; i++) due("one(" + p + ", " + i + ")", x.one(p, i), ones[p][i]);
        x.sheet(1, 0, 2);
        x.read(2, 0, 0, 1);
        x.see(0, 4);
        x.keep(0);
        x.go(3);
        due("a text in its place", Check.tell(x, "  at 8 1 ; "), 1);
        int[] fresh = {3, 3, 0, 1, 0, 0};
        for (int i = 0; i < fresh.length; i++) due("then rule(" + i + ")", x.rule(i), fresh[i]);
        for (int d = 1; d <= 4; d++) due("then rule(1" + d + ")", x.rule(10 + d), 5 - d);
        due("no GOAL", x.one(0, 3), MoodTown.NONE);
        due("nothing SEEN", x.count(2), 0);
        due("no IMAGE", x.count(3), 0);
        due("back(0)", x.back(0), MoodTown.STATE);
        due("SHEETS stay", x.lay(1, 1, 1), 1);
        due("torn() stays", x.torn(), 1);
        due("a FAULT", Check.tell(x, "at 8 9;"), -15);
        due("fault()", x.fault(), 3);
        due("no line", Check.tell(x, ""), 0);
        due("fault() then", x.fault(), 0);
        due("nobody then", x.rule(3), 0);
        Check.tell(x, "town 5 5;at 24 1;at 23 2;wall 22;goal 1 22;");
        due("nothing is left of an earlier text", Check.tell(x, "town 2 2;at 0 1;"), 2);
        due("no STRAIN is left", x.strain(), 0);
        due("no GOAL is left", x.count(1), 0);
        due("no WALL is left", x.rule(2), 0);
        due("no blanks", Check.tell(x, "town2 3;at1 2;press4;"), 3);
        due("two figures", Check.tell(x, "town 02 03;at 00 01;"), 2);
        due("many blanks", Check.tell(x, "   town   5   5  ;  wall 24  ;  "), 2);
        due("five", Check.tell(x, "at 0 1;at 1 1;still 2 1;at 3 1;at 4 1;goal 4 4;"), 6);
        due("all bounds", Check.tell(x, "town 5 2;at 9 3;pull 0 9 0 9;press 0;goal 0 9;"), 5);
        due("a GOAL in a WALL", Check.tell(x, "wall 3;at 0 1;goal 0 3;"), 3);
        due("two GOALS alike", Check.tell(x, "at 0 1;at 1 1;goal 0 3;goal 1 3;"), 4);
    }

    private static void noTokens() {
        CHECK.fault("$", 1, 0);
        CHECK.fault("   $", 1, 3);
        CHECK.fault("TOWN 2 2;", 1, 0);
        CHECK.fault("town 2 2;\t", 1, 9);
        CHECK.fault("town 2 2;\n", 1, 9);
        CHECK.fault("town 123 2;", 1, 5);
        CHECK.fault("town  000 2;", 1, 6);
        CHECK.fault("100;", 1, 0);
        CHECK.fault("at 1 1,", 1, 6);
        CHECK.fault("at 1 1 999", 1, 7);
        CHECK.fault("wall -1;", 1, 5);
    }

    private static void outOfPlace() {
        CHECK.fault("house 1;", 2, 0);
        CHECK.fault("towns 2 2;", 2, 0);
        CHECK.fault("tow", 2, 0);
        CHECK.fault("tow 999", 2, 0);
        CHECK.fault("townwall 2 2;", 2, 0);
        CHECK.fault("zoo 1;", 2, 0);
        CHECK.fault("5;", 2, 0);
        CHECK.fault(";", 2, 0);
        CHECK.fault("town 2 2;;", 2, 9);
        CHECK.fault("town 2;", 2, 6);
        CHECK.fault("town 2 2 2;", 2, 9);
        CHECK.fault("town 2 2", 2, 8);
        CHECK.fault("town 2 2   ", 2, 11);
        CHECK.fault("town 2 2 wall 1;", 2, 9);
        CHECK.fault("wall at;", 2, 5);
        CHECK.fault("at 1", 2, 4);
        CHECK.fault("goal 1;", 2, 6);
        CHECK.fault("pull 1 2 3;", 2, 10);
        CHECK.fault("press;", 2, 5);
    }

    private static void outOfBounds() {
        CHECK.fault("town 1 2;", 3, 5);
        CHECK.fault("town 6 2;", 3, 5);
        CHECK.fault("town 2 1;", 3, 7);
        CHECK.fault("town 2 6;", 3, 7);
        CHECK.fault("town 1 $", 3, 5);
        CHECK.fault("wall 25;", 3, 5);
        CHECK.fault("at 25 1;", 3, 3);
        CHECK.fault("at 0 4;", 3, 5);
        CHECK.fault("still 25 0;", 3, 6);
        CHECK.fault("still 0 4;", 3, 8);
        CHECK.fault("pull 10 0 0 0;", 3, 5);
        CHECK.fault("pull 1 2 3 10;", 3, 11);
        CHECK.fault("press 5;", 3, 6);
        CHECK.fault("goal 5 0;", 3, 5);
        CHECK.fault("goal 0 25;", 3, 7);
    }

    private static void twice() {
        CHECK.fault("town 2 2;town", 4, 9);
        CHECK.fault("pull 1 2 3 4;pull 99", 4, 13);
        CHECK.fault("press 1; press 1;", 4, 9);
        CHECK.fault("wall 1;wall 1", 4, 12);
        CHECK.fault("wall 1;at 1 9;", 4, 10);
        CHECK.fault("at 1 1;wall 01;", 4, 12);
        CHECK.fault("at 1 1;still 1 1;", 4, 13);
        CHECK.fault("still 24 1;at 24 1;", 4, 14);
        CHECK.fault("goal 0 1;goal 0 99;", 4, 14);
        CHECK.fault("at 0 1;still 1 1;at 2 1;at 3 1;at 4 1;at", 5, 38);
        CHECK.fault("at 0 1;still 1 1;at 2 1;at 3 1;at 4 1;still 0 1;", 5, 38);
    }

    private static void missing() {
        CHECK.fault("wall 9;", 6, 7);
        CHECK.fault("wall 9;  ", 6, 9);
        CHECK.fault("at 9 1;", 6, 7);
        CHECK.fault("town 2 2;still 4 1;", 6, 19);
        CHECK.fault("wall 24;town 5 4;", 6, 17);
        CHECK.fault("goal 0 1;", 6, 9);
        CHECK.fault("at 0 1;goal 0 9;", 6, 16);
        CHECK.fault("at 0 1;goal 1 1;", 6, 16);
        CHECK.fault("wall 9;x", 2, 7);
    }

    private static void asked() {
        MoodTown x = CHECK.town("town 4 2;still 7 2;at 0 1;goal 0 3;wall 4;");
        for (int what : new int[] {-1, 6, 9, 10, 15, Integer.MIN_VALUE, Integer.MAX_VALUE}) due("rule(" + what + ")", x.rule(what), MoodTown.BAD);
        due("one(0, 0)", x.one(0, 0), 7);
        due("one(0, 1)", x.one(0, 1), 2);
        due("one(0, 2)", x.one(0, 2), 1);
        due("one(0, 3)", x.one(0, 3), 3);
        due("one(1, 2)", x.one(1, 2), 0);
        due("one(1, 3)", x.one(1, 3), MoodTown.NONE);
        for (int what : new int[] {-1, 4}) due("one(0, " + what + ")", x.one(0, what), MoodTown.BAD);
        for (int p : new int[] {-1, 2, Integer.MAX_VALUE}) due("one(" + p + ", 0)", x.one(p, 0), MoodTown.BAD);
        int[] who = {1, -4, -4, -4, -4, -4, -4, 0, -1};
        for (int c = 0; c < who.length; c++) due("cell(" + c + ")", x.cell(c), who[c]);
        due("cell(-1)", x.cell(-1), MoodTown.BAD);
    }
}
