import java.util.ArrayList;
import java.util.List;
import java.util.function.Supplier;
import java.util.function.ToLongFunction;

/** What the tests of boundary cases share: a named case with the answer that is due, and a refusal that must change nothing. */
final class Bounds {
    static final int BAD = MoodTown.BAD, STATE = MoodTown.STATE, FULL = MoodTown.FULL, NONE = MoodTown.NONE;

    /** Numbers that are in no range of the document. */
    static final int[] FAR = {Integer.MIN_VALUE, Integer.MIN_VALUE + 1, Integer.MAX_VALUE - 1, Integer.MAX_VALUE};

    final Check check;
    private String sentence = "";

    Bounds(String name) { check = new Check(name); }

    /** The sentence of the document that the next cases are of. */
    void of(String words) { sentence = words; }

    void due(String what, long got, long want) { check.due("[" + sentence + "] " + what, got, want); }

    MoodTown town(String text) { return check.town(text); }

    void refused(String call, ToLongFunction<MoodTown> asked, long want) { refused(Bounds::busy, call, asked, want); }

    /** Two objects made alike, one of them with the refused call: nothing that can be asked may differ then. */
    void refused(Supplier<MoodTown> made, String call, ToLongFunction<MoodTown> asked, long want) {
        MoodTown x = made.get();
        due(call, asked.applyAsLong(x), want);
        List<Long> with = look(x);
        List<Long> without = look(made.get());
        due(call + " changes nothing", with.equals(without) ? 1 : 0, 1);
    }

    /** A town with something in every place: told, gone on, SEEN, kept, laid, torn, with a FAULT and bytes on THE TAPE. */
    static MoodTown busy() {
        MoodTown x = new MoodTown();
        Check.tell(x, "town 4 3;wall 11;at 0 1;at 5 2;still 6 3;at 9 0;goal 0 1;goal 2 6;pull 9 0 5 7;press 2;");
        x.go(3);
        x.see(0, 1);
        x.see(2, 4);
        x.keep(1);
        x.mood(3, 1);
        x.see(1, 4);
        x.sheet(0, 0, 6);
        lay(x, 0, 0, 2, 1, 3, 9, 9);
        x.sheet(2, 1, 3);
        lay(x, 2, 3, 2, 258);
        x.sheet(3, 2, 0);
        x.read(2, 1, 0, 2);
        Check.tell(x, "press 5;");
        for (char c : "town".toCharArray()) x.feed(c);
        return x;
    }

    static void lay(MoodTown x, int k, int... cells) {
        for (int i = 0; i < cells.length; i++) x.lay(k, i, cells[i]);
    }

    /** All that can be asked, at last by calls that change the object; with busy() some 450 calls, of 512 that are promised. */
    private static List<Long> look(MoodTown x) {
        List<Long> all = new ArrayList<>();
        askAll(x, all);
        for (int n = x.count(2); n >= 0; n--) {
            x.forget(n);
            all.add((long) x.moods(0));
            for (int p = 0; p < x.rule(3); p++) all.add((long) x.moods(10 + p));
        }
        for (int k = 0; k < 4; k++) lookAtSheet(x, k, all);
        for (int k = 0; k < 2; k++) {
            all.add((long) x.back(k));
            askAll(x, all);
        }
        for (char c : " 5 2;".toCharArray()) all.add((long) x.feed(c));
        all.add((long) x.text());
        all.add((long) x.rule(0));
        return all;
    }

    private static void askAll(MoodTown x, List<Long> all) {
        for (int what = 0; what <= 14; what++) all.add((long) x.rule(what));
        for (int p = 0; p < x.rule(3); p++) for (int what = 0; what < 4; what++) all.add((long) x.one(p, what));
        for (int what = 0; what <= 6; what++) all.add((long) x.count(what));
        all.add((long) x.fault());
        all.add((long) x.torn());
        all.add((long) x.stuck());
        all.add((long) x.strain());
    }

    private static void lookAtSheet(MoodTown x, int k, List<Long> all) {
        int own = 0;
        for (int lane = 0; lane < 3; lane++) {
            all.add((long) x.read(k, lane, 0, 1));
            all.add((long) x.torn());
            if (x.torn() != 3) own = lane;
        }
        boolean isRead = true;
        for (int i = 0; i < 5 && isRead; i++) {
            int came = x.read(k, own, i, 1);
            all.add((long) came);
            for (int p = 0; p < x.rule(3) && came == 1; p++) all.add((long) x.one(p, 1));
            isRead = came != 0;
        }
    }

    /** A text that is taken, with so many lines; the object that it told. */
    MoodTown taken(String text, int lines) {
        MoodTown x = new MoodTown();
        due("'" + text + "'", Check.tell(x, text), lines);
        due("no FAULT in '" + text + "'", x.fault(), 0);
        return x;
    }

    void fault(String text, int why, int place) { check.fault(text, why, place); }

    void close() { check.close(); }
}
