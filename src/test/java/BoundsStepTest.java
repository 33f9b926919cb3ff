import java.util.ArrayList;
import java.util.List;

/** Boundary cases of Terms 2 (FLIPS, AT REST) and of promises 20 to 23: STEPS, what is ahead, rest, what comes again. */
public final class BoundsStepTest {
    private static final Bounds B = new Bounds("BoundsStepTest");
    private static final int BAD = Bounds.BAD, FULL = Bounds.FULL, NONE = Bounds.NONE;

    /** Found by the model: at rest behind 61 STEPS, and one whose CELLS and MOODS come again behind 61. */
    private static final String LATE_REST = "town 4 4;at 0 2;at 7 1;at 4 2;at 9 2;at 13 1;wall 15;wall 5;pull 4 0 5 1;press 2;";
    private static final String LATE_AGAIN = "town 5 5;still 18 1;at 3 3;at 14 1;at 15 1;at 0 3;wall 21;wall 22;pull 5 7 9 8;press 1;";

    public static void main(String[] args) {
        pressedBy();
        nextCells();
        flippedMoods();
        goN();
        goFull();
        goals();
        ahead();
        atRest();
        rest();
        again();
        B.close();
    }

    private static void pressedBy() {
        B.of("2: who has PRESS others or more in CELLS next to his (PRESS above 0)");
        int[] around = {1, 3, 5, 7};
        for (int others = 0; others <= 4; others++) {
            StringBuilder text = new StringBuilder("still 4 1;");
            for (int i = 0; i < others; i++) text.append("still ").append(around[i]).append(" 0;");
            for (int press = 0; press <= 4; press++) {
                MoodTown x = B.town(text + "press " + press + ";");
                boolean isFlip = press > 0 && others >= press;
                x.go(1);
                B.due("MOOD by " + others + " others, PRESS " + press, x.one(0, 1), isFlip ? 2 : 1);
            }
        }
    }

    private static void moodBehind(String text, int mood) {
        MoodTown x = B.town(text);
        x.go(1);
        B.due(text + " MOOD of 0", x.one(0, 1), mood);
    }

    private static void nextCells() {
        B.of("2: in CELLS next to his: not across a corner, not from edge to edge");
        for (int c : new int[] {0, 2, 6, 8}) moodBehind("still 4 1;still " + c + " 0;press 1;", 1);
        moodBehind("still 2 1;still 3 0;press 1;", 1);
        moodBehind("still 3 1;still 2 0;press 1;", 1);
        moodBehind("still 0 1;still 2 0;press 1;", 1);
        moodBehind("still 1 1;still 7 0;press 1;", 1);
        moodBehind("town 5 2;still 4 1;still 5 0;press 1;", 1);
        moodBehind("town 2 5;still 1 1;still 2 0;press 1;", 1);
        B.of("2: Then MOODS FLIP: where all are when they have gone");
        moodBehind("town 5 2;at 0 1;still 2 2;press 1;", 2);
        moodBehind("town 5 2;at 1 1;still 0 1;press 1;", 1);
        B.of("2: others of any MOOD, STILL or not; WALLS and edges press nobody");
        moodBehind("still 0 1;at 1 0;press 1;", 2);
        moodBehind("still 0 1;wall 1;wall 3;press 1;", 1);
    }

    private static void flippedMoods() {
        B.of("2: of each ONE of MOOD 1, 2, 3: 1 becomes 2, 2 becomes 3, 3 becomes 1");
        int[] next = {0, 2, 3, 1};
        for (int m = 0; m <= 3; m++) moodBehind("still 0 " + m + ";still 1 0;press 1;", next[m]);
        B.of("2: all at once");
        MoodTown x = B.town("still 0 1;still 1 2;still 2 3;press 1;");
        x.go(1);
        B.due("each is the next", x.one(0, 1) * 100 + x.one(1, 1) * 10 + x.one(2, 1), 231);
        x.go(2);
        B.due("behind three each is as he was", x.one(0, 1) * 100 + x.one(1, 1) * 10 + x.one(2, 1), 123);
    }

    private static MoodTown atStep(String text, int step) {
        MoodTown x = B.town(text);
        for (int left = step; left > 0; left -= 60) x.go(Math.min(left, 60));
        return x;
    }

    private static void goN() {
        B.of("promise 20: n STEPS go (0 to 60). BAD");
        String flips = "still 0 1;still 1 1;press 1;";
        for (int n : new int[] {0, 1, 59, 60}) {
            MoodTown x = B.town(flips);
            B.due("go(" + n + ")", x.go(n), 0);
            B.due("STEP behind " + n, x.rule(5), n);
            B.due("MOOD behind " + n, x.one(0, 1), 1 + n % 3);
        }
        for (int n : new int[] {-1, 61, 1000, Integer.MIN_VALUE, Integer.MAX_VALUE}) B.refused("go(" + n + ")", x -> x.go(n), BAD);
        B.due("nobody goes", new MoodTown().go(60), 0);
        MoodTown busy = Bounds.busy();
        busy.go(0);
        B.refused("go(0) leaves all as it was", x -> x.go(0), busy.count(0));
    }

    private static void goFull() {
        B.of("promise 20: FULL: STEP would be 1000 or more");
        String text = "at 0 1;still 8 1;goal 0 0;";
        B.due("939 and 60", atStep(text, 939).go(60), 1);
        B.due("940 and 60", atStep(text, 940).go(60), FULL);
        B.due("940 and 59", atStep(text, 940).go(59), 1);
        B.due("998 and 1", atStep(text, 998).go(1), 1);
        B.due("998 and 2", atStep(text, 998).go(2), FULL);
        MoodTown last = atStep(text, 999);
        B.due("999", last.rule(5), 999);
        B.due("999 and 0", last.go(0), 1);
        for (int n : new int[] {1, 2, 60}) B.refused(() -> atStep(text, 999), "999 and " + n, x -> x.go(n), FULL);
        B.of("Terms: the first that fits");
        for (int n : new int[] {-1, 61, Integer.MAX_VALUE}) B.refused(() -> atStep(text, 999), "999 and " + n, x -> x.go(n), BAD);
        B.of("promise 20: FULL binds go() alone");
        B.due("ahead() of 999", last.ahead(0, 60, 0), 0);
        B.due("rest() of 999", last.rest(), 0);
        B.due("again() of 999", last.again(1), 1);
        B.due("setting() of 999", last.setting(12, 0), 0);
        B.due("hang() of 999", last.hang(1, 12, 1), 1);
        B.due("odds() of 999", last.odds(0, 12, 0), 1);
        B.due("STEP stays", last.rule(5), 999);
    }

    private static void goals() {
        B.of("promise 20: how many ONES are at their GOALS then");
        B.due("no GOALS", B.town("at 0 1;at 1 1;").go(0), 0);
        B.due("all five", B.town("still 0 1;still 1 1;still 2 1;still 3 1;still 4 1;goal 0 0;goal 1 1;goal 2 2;goal 3 3;goal 4 4;").go(1), 5);
        B.due("the GOAL of another", B.town("still 0 1;still 1 1;goal 0 1;goal 1 0;").go(1), 0);
        MoodTown x = B.town("town 5 2;at 0 1;still 4 2;goal 0 1;");
        B.due("not there yet", x.go(0), 0);
        B.due("there", x.go(1), 1);
        B.due("gone past", x.go(1), 0);
    }

    private static void ahead() {
        B.of("promise 21: Of a ONE behind n STEPS (0 to 60) from now on: 0 CELL, 1 MOOD. BAD");
        String text = "town 4 3;at 11 1;still 2 2;still 0 2;press 1;";
        for (int n : new int[] {0, 1, 59, 60}) {
            MoodTown x = B.town(text);
            MoodTown y = B.town(text);
            y.go(n);
            for (int p = 0; p < 3; p++) {
                B.due("CELL of " + p + " behind " + n, x.ahead(p, n, 0), y.one(p, 0));
                B.due("MOOD of " + p + " behind " + n, x.ahead(p, n, 1), y.one(p, 1));
            }
            B.due("STEP stays", x.rule(5), 0);
        }
        B.due("behind 59", B.town(text).ahead(0, 59, 0), 7);
        B.due("behind 60", B.town(text).ahead(0, 60, 0), 6);
        for (int n : new int[] {-1, 61, Integer.MIN_VALUE, Integer.MAX_VALUE}) B.refused("ahead(0, " + n + ", 0)", x -> x.ahead(0, n, 0), BAD);
        for (int p : new int[] {-1, 4, Integer.MIN_VALUE, Integer.MAX_VALUE}) B.refused("ahead(" + p + ", 1, 0)", x -> x.ahead(p, 1, 0), BAD);
        for (int what : new int[] {-1, 2, Integer.MIN_VALUE, Integer.MAX_VALUE}) B.refused("ahead(0, 1, " + what + ")", x -> x.ahead(0, 1, what), BAD);
        B.due("of nobody", new MoodTown().ahead(0, 0, 0), BAD);
    }

    private static void atRest() {
        B.of("2: AT REST is the town, if by the next STEP nobody goes and no MOOD FLIPS");
        B.due("nobody", new MoodTown().rest(), 0);
        B.due("alone", B.town("at 0 1;").rest(), 0);
        B.due("all STUCK", B.town("at 0 1;at 1 2;").rest(), 0);
        B.due("a FLIP alone", B.town("still 0 1;still 1 0;press 1;").rest(), NONE);
        B.due("who has no MOOD does not FLIP", B.town("still 0 0;still 1 0;press 1;").rest(), 0);
        B.due("one goes once", B.town("town 5 2;at 3 1;still 2 1;pull 1 0 0 0;").rest(), 1);
    }

    private static void rest() {
        B.of("promise 22: Behind how many STEPS (0 to 60) first. NONE: behind none of these");
        MoodTown x = B.town(LATE_REST);
        B.due("61 are too many", x.rest(), NONE);
        for (int left = 60; left >= 58; left--) {
            x.go(1);
            B.due(left + " are not", x.rest(), left);
        }
        x.go(57);
        B.due("one more", x.rest(), 1);
        x.go(1);
        B.due("now", x.rest(), 0);
        x.go(1);
        B.due("for ever", x.rest(), 0);
        B.due("rest() changes nothing", x.rule(5), 62);
    }

    /** CELLS and MOODS of all, each for itself, by ahead(): a sum of both alone would come again too soon. */
    private static void againOf(String text, int first, int more) {
        MoodTown x = B.town(text);
        List<String> looks = new ArrayList<>();
        int came = -1;
        while (came < 0) {
            StringBuilder look = new StringBuilder();
            for (int p = 0; p < x.rule(3); p++) look.append(x.ahead(p, looks.size(), 0)).append(' ').append(x.ahead(p, looks.size(), 1)).append(';');
            came = looks.indexOf(look.toString());
            looks.add(look.toString());
        }
        B.due(text + " first, by ahead()", came, first);
        B.due(text + " again, by ahead()", looks.size() - 1 - came, more);
        B.due(text + " again(0)", x.again(0), first);
        B.due(text + " again(1)", x.again(1), more);
    }

    private static void again() {
        B.of("promise 23: CELLS and MOODS of all that come again");
        MoodTown nobody = new MoodTown();
        B.due("of nobody, first", nobody.again(0), 0);
        B.due("of nobody, again", nobody.again(1), 1);
        MoodTown flips = B.town("still 0 1;still 1 1;press 1;");
        B.due("MOODS alone, first", flips.again(0), 0);
        B.due("MOODS alone, again", flips.again(1), 3);
        MoodTown once = B.town("town 5 2;at 3 1;still 2 1;pull 1 0 0 0;");
        B.due("behind one STEP, first", once.again(0), 1);
        B.due("behind one STEP, again", once.again(1), 1);
        againOf("town 5 2;at 0 3;at 4 1;press 1;", 2, 3);
        againOf("town 2 3;at 5 1;at 0 2;wall 4;press 1;", 2, 3);
        againOf("town 4 2;at 0 1;at 3 3;at 6 3;wall 4;wall 5;press 2;", 5, 1);
        B.of("promise 23: both together 60 at most. NONE: they do not");
        MoodTown x = B.town(LATE_REST);
        for (int what = 0; what < 2; what++) B.due("61 and 1", x.again(what), NONE);
        x.go(1);
        for (int what = 0; what < 2; what++) B.due("60 and 1", x.again(what), NONE);
        x.go(1);
        B.due("59 and 1, first", x.again(0), 59);
        B.due("59 and 1, again", x.again(1), 1);
        MoodTown y = B.town(LATE_AGAIN);
        for (int what = 0; what < 2; what++) B.due("10 and 51", y.again(what), NONE);
        y.go(1);
        B.due("9 and 51, first", y.again(0), 9);
        B.due("9 and 51, again", y.again(1), 51);
        y.go(9);
        B.due("0 and 51, first", y.again(0), 0);
        B.due("0 and 51, again", y.again(1), 51);
        B.of("promise 23: BAD");
        for (int what : new int[] {-1, 2, 10, Integer.MIN_VALUE, Integer.MAX_VALUE}) B.refused("again(" + what + ")", z -> z.again(what), BAD);
        B.due("BAD ahead of NONE", B.town(LATE_REST).again(2), BAD);
    }
}
