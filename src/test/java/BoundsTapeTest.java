/** Boundary cases of Terms 1 and of promises 1 to 5: THE TOWN, THE TAPE, TOKENS, each FAULT. */
public final class BoundsTapeTest {
    private static final Bounds B = new Bounds("BoundsTapeTest");
    private static final String FIVE = "at 0 1;at 1 1;at 2 1;still 3 1;at 4 1;";

    public static void main(String[] args) {
        sizes();
        numbering();
        farPulls();
        newObject();
        feed();
        end();
        fullTape();
        names();
        numbers();
        blanks();
        longest();
        bounds();
        firstMet();
        outOfPlace();
        theEnd();
        twice();
        theSixth();
        behindAll();
        tellsAll();
        faultOfTheLatest();
        B.close();
    }

    private static String filled(String text, int length, String with) {
        return text + with.repeat(length - text.length());
    }

    private static void sizes() {
        B.of("1: WIDE by HIGH CELLS (2 to 5 each)");
        for (int wide = 2; wide <= 5; wide++) {
            for (int high = 2; high <= 5; high++) {
                MoodTown x = B.taken("town " + wide + " " + high + ";", 1);
                B.due("the first CELL", x.cell(0), Bounds.NONE);
                B.due("the last CELL of " + wide + " by " + high, x.cell(wide * high - 1), Bounds.NONE);
                B.due("one beyond " + wide + " by " + high, x.cell(wide * high), Bounds.BAD);
                B.due("WIDE, HIGH", x.rule(0) * 10 + x.rule(1), wide * 10 + high);
            }
        }
        B.of("1: WALLS stand in some CELLS (bits; none)");
        MoodTown x = B.taken("town 5 5;", 1);
        B.due("none", x.rule(2), 0);
        for (int c = 0; c < 25; c++) B.due("wall " + c, x.wall(c, true), 0);
        B.due("all", x.rule(2), (1 << 25) - 1);
    }

    private static void numbering() {
        B.of("1: by numbers row by row from the north, each row from the west");
        MoodTown x = B.town("town 5 2;at 4 1;at 9 2;");
        B.due("9 is not to the east of 4", x.force(0, 0), 100);
        B.due("9 is to the south of 4", x.force(0, 1), 104);
        MoodTown y = B.town("town 5 2;at 4 1;at 5 2;pull 9 9 9 9;");
        B.due("5 is not next to 4: five far, in columns", y.force(0, 0), 100);
        B.due("5 is not next to 4: five far, in rows", y.force(0, 1), 100);
        MoodTown z = B.town("town 2 5;at 1 1;at 2 2;");
        B.due("2 is to the west of 1", z.force(0, 0), 97);
        B.due("2 is to the south of 1", z.force(0, 1), 103);
    }

    private static void farPulls() {
        B.of("1: PULLS by how far (1 to 4; beyond none)");
        int[] cells = {1, 2, 3, 4, 9, 14, 19, 24};
        int[] east = {9, 8, 7, 6, 0, 0, 0, 0};
        for (int i = 0; i < cells.length; i++) {
            MoodTown x = B.town("town 5 5;at 0 1;at " + cells[i] + " 2;pull 9 8 7 6;");
            B.due("how far " + (i + 1) + ", to the east", x.force(0, 0), 100 + east[i]);
            B.due("how far " + (i + 1) + ", to the south", x.force(0, 1), 100);
        }
        B.due("2 and 2 are 4", B.town("town 5 5;at 0 1;at 12 2;pull 9 8 7 6;").force(0, 0), 106);
        B.due("3 and 2 are 5", B.town("town 5 5;at 0 1;at 13 2;pull 9 8 7 6;").force(0, 0), 100);
    }

    private static void newObject() {
        B.of("promise 1: Three by three, nobody; SHEETS of nothing");
        MoodTown x = new MoodTown();
        B.due("the last CELL", x.cell(8), Bounds.NONE);
        B.due("no more", x.cell(9), Bounds.BAD);
        B.due("nobody", x.rule(3), 0);
        for (int k = 0; k < 4; k++) {
            B.due("SHEET " + k, x.read(k, 0, 0, 1), 0);
            B.due("NULL", x.torn(), 1);
        }
        for (int k = 0; k < 2; k++) B.due("no IMAGE " + k, x.back(k), Bounds.STATE);
        B.due("0 at first", x.fault(), 0);
        B.due("THE TAPE is empty", x.end(0), 0);
    }

    private static MoodTown fullOne() {
        MoodTown x = new MoodTown();
        for (int i = 0; i < 155; i++) x.feed(' ');
        for (char c : "town ".toCharArray()) x.feed(c);
        return x;
    }

    private static void feed() {
        B.of("promise 2: A byte (0 to 127)");
        B.due("the least", new MoodTown().feed(0), 1);
        B.due("the greatest", new MoodTown().feed(127), 1);
        B.refused("feed(-1)", x -> x.feed(-1), Bounds.BAD);
        B.refused("feed(128)", x -> x.feed(128), Bounds.BAD);
        B.refused("feed(255)", x -> x.feed(255), Bounds.BAD);
        B.refused("feed(256 + 32)", x -> x.feed(288), Bounds.BAD);
        for (int v : Bounds.FAR) B.refused("feed(" + v + ")", x -> x.feed(v), Bounds.BAD);
        B.of("promise 2: FULL: more than 160");
        MoodTown y = new MoodTown();
        for (int i = 1; i <= 160; i++) B.due("byte " + i, y.feed(32), i);
        B.due("byte 161", y.feed(32), Bounds.FULL);
        B.refused(BoundsTapeTest::fullOne, "byte 161", x -> x.feed('x'), Bounds.FULL);
        B.of("Terms: the first that fits");
        B.refused(BoundsTapeTest::fullOne, "feed(128) when full", x -> x.feed(128), Bounds.BAD);
    }

    private static void end() {
        B.of("promise 3: THE TAPE keeps its first n bytes: how many it had. BAD");
        B.due("all of none", new MoodTown().end(0), 0);
        B.due("more than none", new MoodTown().end(1), Bounds.BAD);
        MoodTown y = fullOne();
        B.due("all of 160", y.end(160), 160);
        B.due("161 of 160", y.end(161), Bounds.BAD);
        B.due("159 of 160", y.end(159), 160);
        B.due("one is free", y.feed(32), 160);
        B.due("none", y.end(0), 160);
        B.due("none had been left", y.end(0), 0);
        B.refused("end(-1)", x -> x.end(-1), Bounds.BAD);
        B.refused("end(5) of 4", x -> x.end(5), Bounds.BAD);
        B.refused("end(4) of 4 keeps all", x -> x.end(4), 4);
        for (int v : Bounds.FAR) B.refused("end(" + v + ")", x -> x.end(v), Bounds.BAD);
    }

    private static void fullTape() {
        B.of("1: THE TAPE has 160 bytes, places from 0");
        B.taken(filled("at 0 1;", 160, " "), 1);
        B.taken(" ".repeat(153) + "at 0 1;", 1);
        B.taken("", 0);
        B.taken(" ".repeat(160), 0);
        B.fault("$", 1, 0);
        B.fault(" ".repeat(159) + "$", 1, 159);
        B.fault(" ".repeat(159) + ";", 2, 159);
        B.fault(filled("at 0 1", 160, " "), 2, 160);
        B.fault(" ".repeat(154) + "at 0 1", 2, 160);
        B.fault(filled("wall 9;", 160, " "), 6, 160);
        MoodTown most = new MoodTown();
        StringBuilder lines = new StringBuilder("town5 5;");
        for (int c = 0; c < 10; c++) lines.append("wall").append(c).append(';');
        for (int c = 10; c < 23; c++) lines.append("wall").append(c).append(';');
        B.due("24 lines in 159 bytes", Check.tell(most, lines.toString()), 24);
        B.due("their WALLS", most.rule(2), (1 << 23) - 1);
    }

    private static void names() {
        B.of("1: NAMES (a .. z)");
        B.fault("a", 2, 0);
        B.fault("z", 2, 0);
        for (char c : "`{@[AZ_".toCharArray()) {
            B.fault(c + "", 1, 0);
            B.fault("at" + c + "0 1;", 1, 2);
        }
        B.fault("z".repeat(160), 2, 0);
        B.fault("At 0 1;", 1, 0);
    }

    private static void numbers() {
        B.of("1: NUMBERS (1 or 2 figures); a NUMBER that is too long (its first byte)");
        B.fault("0", 2, 0);
        B.fault("9", 2, 0);
        B.fault("/", 1, 0);
        B.fault(":", 1, 0);
        B.fault("at 0 1/", 1, 6);
        B.fault("at 0 1:", 1, 6);
        B.taken("press 4;", 1);
        B.taken("press 04;", 1);
        B.fault("press 004;", 1, 6);
        B.fault("press 4294967297;", 1, 6);
        B.fault("press 18446744073709551617;", 1, 6);
        B.fault("0".repeat(160), 1, 0);
        B.fault("at 0 1000;", 1, 5);
        B.fault("at 000", 1, 3);
        B.of("1: one ;");
        B.fault("at 0 1<", 1, 6);
        B.fault("at 0 1;;", 2, 7);
        B.taken("at 0 1;at 1 1;", 2);
    }

    private static void blanks() {
        B.of("1: blanks (32) between");
        for (int c : new int[] {0, 1, 9, 10, 13, 31, 33, 127}) {
            B.fault((char) c + "at 0 1;", 1, 0);
            B.fault("at" + (char) c + "0 1;", 1, 2);
            B.fault("at 0 1;" + (char) c, 1, 7);
        }
        B.taken(" at 0 1 ; ", 1);
        B.taken("    at    0    1    ;    ", 1);
        B.taken("at0 1;", 1);
    }

    private static void longest() {
        B.of("1: TOKENS, each as long as may be");
        B.fault("att 0 1;", 2, 0);
        B.fault("a t 0 1;", 2, 0);
        B.fault("atat 0 1;", 2, 0);
        B.fault("town 22;", 3, 5);
        B.fault("town22;", 3, 4);
        B.fault("at 01;", 2, 5);
        B.fault("goal0 1at", 2, 7);
        B.taken("pull9 9 9 9;press4;", 2);
        B.taken("town2 3;wall5;still0 1;", 3);
    }

    private static void bounds() {
        B.of("1: town: WIDE, HIGH");
        B.taken("town 2 5;", 1);
        B.taken("town 5 2;", 1);
        for (int v : new int[] {0, 1, 6, 99}) {
            B.fault("town " + v + " 3;", 3, 5);
            B.fault("town 3 " + v + ";", 3, 7);
        }
        B.of("1: wall: a CELL (0 to 24)");
        B.due("the first and the last", B.taken("town 5 5;wall 0;wall 24;", 3).rule(2), 1 + (1 << 24));
        B.fault("town 5 5;wall 25;", 3, 14);
        B.fault("town 5 5;wall 99;", 3, 14);
        for (String name : new String[] {"at", "still"}) {
            int place = 9 + name.length() + 1;
            B.of("1: " + name + ": CELL (0 to 24), MOOD (0 to 3)");
            MoodTown x = B.taken("town 5 5;" + name + " 0 0;" + name + " 24 3;", 3);
            B.due("the least CELL and MOOD", x.one(0, 0) * 10 + x.one(0, 1), 0);
            B.due("the greatest CELL and MOOD", x.one(1, 0) * 10 + x.one(1, 1), 243);
            B.fault("town 5 5;" + name + " 25 0;", 3, place);
            B.fault("town 5 5;" + name + " 99 0;", 3, place);
            B.fault("town 5 5;" + name + " 0 4;", 3, place + 2);
            B.fault("town 5 5;" + name + " 24 99;", 3, place + 3);
        }
        B.of("1: pull: PULLS by 1, 2, 3, 4 (0 to 9 each)");
        MoodTown y = B.taken("pull 0 9 00 09;", 1);
        for (int d = 1; d <= 4; d++) B.due("PULL by " + d, y.rule(10 + d), d % 2 == 0 ? 9 : 0);
        B.fault("pull 10 0 0 0;", 3, 5);
        B.fault("pull 0 10 0 0;", 3, 7);
        B.fault("pull 0 0 10 0;", 3, 9);
        B.fault("pull 0 0 0 10;", 3, 11);
        B.of("1: press (0 to 4)");
        B.due("the least", B.taken("press 0;", 1).rule(4), 0);
        B.due("the greatest", B.taken("press 4;", 1).rule(4), 4);
        B.fault("press 5;", 3, 6);
        B.of("1: goal: a ONE (0 to 4), a CELL (0 to 24)");
        MoodTown z = B.taken("town 5 5;" + FIVE + "goal 0 0;goal 4 24;", 8);
        B.due("the least", z.one(0, 3), 0);
        B.due("the greatest", z.one(4, 3), 24);
        B.fault("town 5 5;" + FIVE + "goal 5 0;", 3, 9 + FIVE.length() + 5);
        B.fault("town 5 5;at 0 1;goal 0 25;", 3, 23);
    }

    private static void firstMet() {
        B.of("1: FAULTS, the first met as it is read (a TOKEN is read when the one before has been taken)");
        B.fault("town 6 $", 3, 5);
        B.fault("town $ 6", 1, 5);
        B.fault("town 2 2;town $", 4, 9);
        B.fault("pull 1 1 1 1;pull", 4, 13);
        B.fault("press 0;press 9", 4, 8);
        B.fault("at 0 1;at 0 $", 4, 10);
        B.fault("at 0 1;at 0 4", 4, 10);
        B.fault("at 0 1;wall 0$", 4, 12);
        B.fault("at 0 4$", 3, 5);
        B.fault("goal 0 1;goal 0 $", 4, 14);
        B.fault("goal 5 $", 3, 5);
        B.fault("x 123", 2, 0);
        B.fault("at 0 1 x", 2, 7);
        B.fault("at 0 1 $", 1, 7);
        B.fault("wall 9;$", 1, 7);
        B.fault("wall 24;wall 24;", 4, 13);
        B.fault(FIVE + "at $", 5, FIVE.length());
    }

    private static void outOfPlace() {
        B.of("1: 2 a TOKEN that can not stand there (a NAME that begins no line)");
        for (String name : new String[] {"town", "wall", "at", "still", "pull", "press", "goal"}) {
            B.fault("x" + name.substring(1) + " 2 2;", 2, 0);
            B.fault(name.substring(0, name.length() - 1) + "x 2 2;", 2, 0);
            B.fault(name.substring(1) + " 2 2;", 2, 0);
            B.fault(name.substring(0, name.length() - 1) + " 2 2;", 2, 0);
            B.fault(name + "s 2 2;", 2, 0);
        }
        B.fault("n", 2, 0);
        B.fault("walls 1;", 2, 0);
        B.fault("pres 1;", 2, 0);
        B.fault("7;", 2, 0);
        B.fault(";", 2, 0);
        B.fault("town at 2;", 2, 5);
        B.fault("town ;", 2, 5);
        B.fault("town 2 at;", 2, 7);
        B.fault("town 2 ;", 2, 7);
        B.fault("town 2 2 2;", 2, 9);
        B.fault("town 2 2 at 0 1;", 2, 9);
        B.fault("wall ;", 2, 5);
        B.fault("wall 1 1;", 2, 7);
        B.fault("at ;", 2, 3);
        B.fault("at 1 ;", 2, 5);
        B.fault("at 1 1 1;", 2, 7);
        B.fault("still 1 wall;", 2, 8);
        B.fault("pull 1 2 3;", 2, 10);
        B.fault("pull 1 2 3 4 5;", 2, 13);
        B.fault("press 1 1;", 2, 8);
        B.fault("goal 0;", 2, 6);
        B.fault("goal 0 0 0;", 2, 9);
    }

    private static void theEnd() {
        B.of("1: 2 or the end: the length");
        String[] cut = {"town", "town 2", "town 2 2", "wall", "wall 1", "at", "at 0", "at 0 1", "still", "still 0", "still 0 1",
            "pull", "pull 1", "pull 1 1", "pull 1 1 1", "pull 1 1 1 1", "press", "press 1", "goal", "goal 0", "goal 0 1"};
        for (String text : cut) {
            B.fault(text, 2, text.length());
            B.fault(text + "  ", 2, text.length() + 2);
            B.fault("wall 8;" + text, 2, text.length() + 7);
        }
    }

    private static void twice() {
        B.of("1: 4 town, pull, press for the second time (its NAME)");
        B.fault("town 3 3;town 3 3;", 4, 9);
        B.fault("town 3 3;wall 1;  town 3 3;", 4, 18);
        B.fault("pull 1 1 1 1;pull 1 1 1 1;", 4, 13);
        B.fault("press 1;press 1;", 4, 8);
        B.of("1: 4 a CELL (wall, at, still) that has a WALL, a ONE already (it)");
        for (String first : new String[] {"wall 3;", "at 3 1;", "still 3 1;"}) {
            B.fault(first + "wall 3;", 4, first.length() + 5);
            B.fault(first + "wall 03;", 4, first.length() + 5);
            B.fault(first + "at 3 1;", 4, first.length() + 3);
            B.fault(first + "still 3 1;", 4, first.length() + 6);
        }
        B.of("1: 4 a ONE that has a GOAL already (it)");
        B.fault("at 0 1;goal 0 1;goal 0 2;", 4, 21);
        B.fault("at 0 1;goal 0 1;goal 0 1;", 4, 21);
        B.fault("goal 4 0;goal 4 0;", 4, 14);
        B.taken("at 0 1;at 1 1;goal 0 2;goal 1 2;", 4);
        B.taken("at 0 1;at 1 1;wall 2;goal 0 2;goal 1 0;", 5);
    }

    private static void theSixth() {
        B.of("1: 5 the 6th one (its NAME)");
        B.due("five are taken", B.taken(FIVE, 5).rule(3), 5);
        B.fault(FIVE + "at 5 1;", 5, FIVE.length());
        B.fault(FIVE + "still 5 1;", 5, FIVE.length());
        B.fault(FIVE + "  at", 5, FIVE.length() + 2);
        B.fault(FIVE + "at 0 1;", 5, FIVE.length());
        B.fault(FIVE + "wall 4;at 5 1;", 4, FIVE.length() + 5);
    }

    private static void behindAll() {
        B.of("1: Behind all (the length): 6 a CELL, a ONE that there is not");
        B.taken("wall 8;", 1);
        B.fault("wall 9;", 6, 7);
        B.taken("at 8 1;", 1);
        B.fault("at 9 1;", 6, 7);
        B.taken("still 8 1;", 1);
        B.fault("still 9 1;", 6, 10);
        B.taken("at 0 1;goal 0 8;", 2);
        B.fault("at 0 1;goal 0 9;", 6, 16);
        B.fault("at 0 1;goal 1 0;", 6, 16);
        B.fault("goal 0 0;", 6, 9);
        B.fault("wall 9;  ", 6, 9);
        B.taken("goal 1 24;wall 24;at 23 1;still 22 1;town 5 5;", 5);
        B.fault("wall 19;town 5 4;wall 20;", 6, 25);
        B.fault("town 2 2;at 0 1;at 4 1;", 6, 23);
        B.fault("town 2 2;still 4 1;at 0 1;", 6, 26);
        B.fault("town 2 2;at 0 1;at 1 1;goal 0 4;goal 1 0;", 6, 41);
    }

    private static void tellsAll() {
        B.of("1: A text that is taken tells all, in place of what there was; nothing is SEEN; IMAGES are gone");
        MoodTown x = Bounds.busy();
        x.end(0);
        B.due("no lines", x.text(), 0);
        int[] rules = {3, 3, 0, 0, 0, 0};
        for (int i = 0; i < rules.length; i++) B.due("rule(" + i + ")", x.rule(i), rules[i]);
        for (int d = 1; d <= 4; d++) B.due("PULL by " + d, x.rule(10 + d), 5 - d);
        int[] counts = {0, 0, 0, 0, 0, 6, 0};
        for (int i = 0; i < counts.length; i++) B.due("count(" + i + ")", x.count(i), counts[i]);
        for (int k = 0; k < 2; k++) B.due("no IMAGE " + k, x.back(k), Bounds.STATE);
        B.due("whether there was one", x.keep(1), 0);
        B.due("torn() is of the latest read()", x.torn(), 2);
        B.of("promise 4: that which was told stays");
        MoodTown y = Bounds.busy();
        y.feed('!');
        B.due("a FAULT", y.text(), -14);
        B.due("STEP", y.rule(5), 3);
        B.due("SEEN", y.count(2), 3);
        B.due("IMAGES", y.count(3), 1);
        B.due("THE TAPE is empty then", y.count(4), 0);
    }

    private static void faultOfTheLatest() {
        B.of("promise 5: The FAULT of the latest text(); 0");
        MoodTown x = new MoodTown();
        String[] texts = {"$", ";", "press 5;", "wall 0;wall 0;", FIVE + "at 5 1;", "wall 9;"};
        for (int why = 1; why <= 6; why++) {
            Check.tell(x, texts[why - 1]);
            B.due("FAULT", x.fault(), why);
            B.due("asked once more", x.fault(), why);
            x.feed('$');
            x.end(0);
            B.due("feed() and end() leave it", x.fault(), why);
        }
        Check.tell(x, "");
        B.due("none", x.fault(), 0);
    }
}
