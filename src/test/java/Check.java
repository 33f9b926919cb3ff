/** What the tests share: a call's answer against the one that is due, and a text fed byte by byte. */
final class Check {
    private final String name;
    private int wrong;
    private int asked;

    Check(String name) { this.name = name; }

    void due(String call, long got, long want) {
        asked++;
        if (got != want) {
            wrong++;
            System.out.println(name + ": " + call + " answered " + got + ", due is " + want);
        }
    }

    static int tell(MoodTown x, String text) {
        for (int i = 0; i < text.length(); i++) x.feed(text.charAt(i));
        return x.text();
    }

    /** A new object that a text has told; the text must be one that is taken. */
    MoodTown town(String text) {
        MoodTown x = new MoodTown();
        if (tell(x, text) < 0) {
            wrong++;
            System.out.println(name + ": not taken: " + text);
        }
        return x;
    }

    /** A text that has a FAULT at a place, and changes nothing but THE TAPE. */
    void fault(String text, int why, int place) {
        MoodTown x = town("town 2 4;at 7 3;press 1;");
        x.keep(0);
        x.see(0, 4);
        due("text() of '" + text + "'", tell(x, text), -10 - place);
        due("fault() of '" + text + "'", x.fault(), why);
        due("bytes behind '" + text + "'", x.count(4), 0);
        due("WIDE behind '" + text + "'", x.rule(0), 2);
        due("HIGH behind '" + text + "'", x.rule(1), 4);
        due("PEOPLE behind '" + text + "'", x.rule(3), 1);
        due("MOOD behind '" + text + "'", x.one(0, 1), 3);
        due("PRESS behind '" + text + "'", x.rule(4), 1);
        due("SEEN behind '" + text + "'", x.count(2), 1);
        due("IMAGES behind '" + text + "'", x.count(3), 1);
    }

    void close() {
        System.out.println(name + ": " + asked + " answers, " + wrong + " wrong");
        if (wrong != 0 || asked == 0) System.exit(1);
    }
}
