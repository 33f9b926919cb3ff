import java.util.Arrays;

/** A town in cells whose people pull those of another mood and push their own; ../shared/DOC.md tells its promises. */
public final class MoodTown {
    public static final int BAD = -1, STATE = -2, FULL = -3, NONE = -4;

    private static final int MOST_PEOPLE = 5;
    private static final int MOST_SIDE = 5;
    private static final int LAST_CELL = MOST_SIDE * MOST_SIDE - 1;
    private static final int LAST_MOOD = 3;
    private static final int MOST_FAR = 4;
    private static final int MOST_PULL = 9;
    private static final int MOST_PRESS = 4;
    private static final int MOST_SEEN = 8;
    private static final int STEP_LIMIT = 1000;
    private static final int MOST_STEPS = 60;
    private static final int MOST_SEARCHED_STEPS = 12;
    private static final int MOST_NURSED_STEPS = 4;
    private static final int MOST_ODDS = 10;
    private static final int IMAGES = 2;
    private static final int SHEETS = 4;
    private static final int LAST_LANE = 2;
    private static final int MOST_SHEET_CELLS = 40;
    private static final int MOST_READ = 20;
    private static final int TAPE_BYTES = 160;
    private static final int LAST_BYTE = 127;

    private static final int NORTH = 0, EAST = 1, SOUTH = 2, WEST = 3, NOWHERE = 4;

    private static final int NULL_FAULT = 1, INDEX_FAULT = 2, CAST_FAULT = 3, SIZE_FAULT = 4;

    /** Questions by a number of their own (a PULL, a ONE, a STEP) are asked as this and that number. */
    private static final int BY_NUMBER = 10;
    private static final int FAULT_ANSWER = -10;
    private static final int BAD_PAIR_ANSWER = -20;
    private static final int FORCE_ANSWER = 100;

    private final Tape tape;
    private final Telling telling;
    private final Town town;
    private final Walk walk;
    private final Search search;
    private final Town[] images;
    private final Sheet[] sheets;
    private int keptBits;
    private int latestTorn;

    public MoodTown() {
        tape = new Tape();
        telling = new Telling(tape);
        town = new Town();
        walk = new Walk();
        search = new Search(walk);
        images = new Town[IMAGES];
        for (int k = 0; k < IMAGES; k++) {
            images[k] = new Town();
        }
        sheets = new Sheet[SHEETS];
        for (int k = 0; k < SHEETS; k++) {
            sheets[k] = new Sheet();
        }
    }

    // ---- the text

    public int feed(int c) {
        if (c < 0 || c > LAST_BYTE) {
            return BAD;
        }
        return tape.append(c) ? tape.length : FULL;
    }

    public int end(int n) {
        int had = tape.length;
        if (n < 0 || n > had) {
            return BAD;
        }
        tape.length = n;
        return had;
    }

    public int text() {
        telling.takeTape();
        tape.length = 0;
        if (telling.fault != 0) {
            return FAULT_ANSWER - telling.faultPlace;
        }
        town.copyFrom(telling.told);
        keptBits = 0;
        return telling.lines;
    }

    public int fault() {
        return telling.fault;
    }

    public int rule(int what) {
        switch (what) {
            case 0: return town.wide;
            case 1: return town.high;
            case 2: return town.walls;
            case 3: return town.people;
            case 4: return town.press;
            case 5: return town.step;
            default: break;
        }
        int d = what - BY_NUMBER;
        return what > BY_NUMBER && d <= MOST_FAR ? town.pulls[d] : BAD;
    }

    public int one(int p, int what) {
        if (!town.hasOne(p)) {
            return BAD;
        }
        switch (what) {
            case 0: return town.cells[p];
            case 1: return town.moods[p];
            case 2: return town.still[p];
            case 3: return town.goals[p];
            default: return BAD;
        }
    }

    public int cell(int c) {
        return town.hasCell(c) ? town.whoIsIn(c) : BAD;
    }

    // ---- what is changed

    public int mood(int p, int m) {
        if (!town.hasOne(p) || !isMood(m)) {
            return BAD;
        }
        int was = town.moods[p];
        town.moods[p] = m;
        return was;
    }

    public int put(int p, int c) {
        if (!town.hasOne(p) || !town.hasCell(c) || !town.canHold(p, c)) {
            return BAD;
        }
        int was = town.cells[p];
        town.cells[p] = c;
        return was;
    }

    public int hold(int p, boolean is) {
        if (!town.hasOne(p)) {
            return BAD;
        }
        int was = town.still[p];
        town.still[p] = is ? 1 : 0;
        return was;
    }

    public int goal(int p, int c) {
        if (!town.hasOne(p) || (c != NONE && !town.hasCell(c))) {
            return BAD;
        }
        int was = town.goals[p];
        town.goals[p] = c;
        return was;
    }

    public int wall(int c, boolean is) {
        if (!town.hasCell(c) || town.whoIsIn(c) != NONE) {
            return BAD;
        }
        int was = town.hasWall(c) ? 1 : 0;
        town.walls = is ? town.walls | (1 << c) : town.walls & ~(1 << c);
        return was;
    }

    public int pull(int d, int v) {
        if (d < 1 || d > MOST_FAR || v < 0 || v > MOST_PULL) {
            return BAD;
        }
        int was = town.pulls[d];
        town.pulls[d] = v;
        return was;
    }

    public int press(int v) {
        if (v < 0 || v > MOST_PRESS) {
            return BAD;
        }
        int was = town.press;
        town.press = v;
        return was;
    }

    // ---- forces

    public int force(int p, int what) {
        if (!town.hasOne(p) || !isHalf(what)) {
            return BAD;
        }
        walk.weigh(town);
        return FORCE_ANSWER + (what == 0 ? walk.easts[p] : walk.souths[p]);
    }

    public int wish(int p) {
        if (!town.hasOne(p)) {
            return BAD;
        }
        walk.weigh(town);
        return walk.ways[p];
    }

    public int stuck() {
        return search.stuckOnes(town);
    }

    public int strain() {
        walk.weigh(town);
        int sum = 0;
        for (int p = 0; p < town.people; p++) {
            sum += Math.abs(walk.easts[p]) + Math.abs(walk.souths[p]);
        }
        return sum;
    }

    // ---- steps

    public int go(int n) {
        if (n < 0 || n > MOST_STEPS) {
            return BAD;
        }
        if (town.step + n >= STEP_LIMIT) {
            return FULL;
        }
        walk.takeSteps(town, n);
        return town.atGoals();
    }

    public int ahead(int p, int n, int what) {
        if (!town.hasOne(p) || n < 0 || n > MOST_STEPS || !isHalf(what)) {
            return BAD;
        }
        Town later = search.behind(town, n);
        return what == 0 ? later.cells[p] : later.moods[p];
    }

    public int rest() {
        return search.stepsToRest(town);
    }

    public int again(int what) {
        if (!isHalf(what)) {
            return BAD;
        }
        int found = search.firstReturn(town);
        if (found == NONE) {
            return NONE;
        }
        return what == 0 ? Search.upperOf(found) : Search.lowerOf(found);
    }

    // ---- moods set, places

    public int setting(int n, int what) {
        if (!isSearched(n) || !isTotalOrOne(what)) {
            return BAD;
        }
        int row = search.fewestChanged(town, n);
        if (row == NONE) {
            return NONE;
        }
        return what == 0 ? town.unlikeMoods(row) : town.moodInRow(row, what - BY_NUMBER);
    }

    public int out() {
        return search.takenOut(town);
    }

    public int calm(int p) {
        return town.hasOne(p) ? search.calmCells(town, p) : BAD;
    }

    public int nurse(int p, int a, int b, int what) {
        if (!town.hasOne(p) || !town.hasOne(a) || !town.hasOne(b) || p == a || p == b || a == b) {
            return BAD;
        }
        int i = what - BY_NUMBER;
        if (what != 0 && (what < BY_NUMBER || i >= MOST_NURSED_STEPS)) {
            return BAD;
        }
        int found = search.soonestParted(town, p, a, b);
        if (found == NONE) {
            return NONE;
        }
        int steps = Search.upperOf(found);
        if (what == 0) {
            return steps;
        }
        return i < steps ? digitOf(Search.lowerOf(found), i, steps) : NONE;
    }

    public int hang(int m, int n, int what) {
        if (m < 1 || m > LAST_MOOD || !isSearched(n) || !isHalf(what)) {
            return BAD;
        }
        int found = search.bestNail(town, m, n);
        if (found == NONE) {
            return NONE;
        }
        return what == 0 ? Search.upperOf(found) : Search.lowerOf(found);
    }

    // ---- odds

    public long odds(int v, int n, int what) {
        if (v < 0 || v > MOST_ODDS || !isSearched(n) || !isHalf(what)) {
            return BAD;
        }
        long part = search.weightAtGoals(town, v, n);
        long whole = town.weightOfAllFlips();
        long common = commonDivisor(part, whole);
        long asked = what == 0 ? part : whole;
        return common > 0 ? asked / common : asked;
    }

    // ---- seen

    public int see(int p, int way) {
        if (!town.hasOne(p) || way < NORTH || way > NOWHERE) {
            return BAD;
        }
        if (town.seen >= MOST_SEEN) {
            return FULL;
        }
        town.seenOnes[town.seen] = p;
        town.seenWays[town.seen] = way;
        town.seen++;
        return town.seen;
    }

    public int forget(int n) {
        int had = town.seen;
        if (n < 0 || n > had) {
            return BAD;
        }
        town.seen = n;
        return had;
    }

    public int moods(int what) {
        if (!isTotalOrOne(what)) {
            return BAD;
        }
        return what == 0 ? search.howManyFit(town) : search.fittingMoods(town, what - BY_NUMBER);
    }

    // ---- by a seed

    public int crowd(int seed, int n) {
        if (n < 1 || n > MOST_STEPS) {
            return BAD;
        }
        return search.wentBySeed(town, seed, n);
    }

    // ---- images, sheets

    public int keep(int k) {
        if (k < 0 || k >= IMAGES) {
            return BAD;
        }
        int was = (keptBits >> k) & 1;
        images[k].copyFrom(town);
        keptBits |= 1 << k;
        return was;
    }

    public int back(int k) {
        if (k < 0 || k >= IMAGES) {
            return BAD;
        }
        if (((keptBits >> k) & 1) == 0) {
            return STATE;
        }
        town.copyFrom(images[k]);
        return town.step;
    }

    public int sheet(int k, int lane, int n) {
        if (!isSheet(k) || !isLane(lane) || n > MOST_SHEET_CELLS) {
            return BAD;
        }
        if (n < 0) {
            return FAULT_ANSWER - SIZE_FAULT;
        }
        sheets[k].renew(lane, n);
        return 1;
    }

    public int lay(int k, int i, int v) {
        if (!isSheet(k)) {
            return BAD;
        }
        int found = sheets[k].faultAt(i);
        if (found != 0) {
            return FAULT_ANSWER - found;
        }
        sheets[k].write(i, v);
        return 1;
    }

    public int read(int k, int lane, int f, int n) {
        if (!isSheet(k) || !isLane(lane) || n < 0 || n > MOST_READ) {
            return BAD;
        }
        Sheet from = sheets[k];
        int found = from.faultAs(lane);
        int whole = 0;
        while (found == 0 && whole < n) {
            found = from.faultOfPair(f + 2 * whole);
            if (found == 0) {
                if (!isTellableMood(from, f + 2 * whole)) {
                    return BAD_PAIR_ANSWER - whole;
                }
                whole++;
            }
        }
        for (int i = 0; i < whole; i++) {
            town.moods[from.row[f + 2 * i]] = from.row[f + 2 * i + 1];
        }
        latestTorn = found;
        return whole;
    }

    public int torn() {
        return latestTorn;
    }

    public int count(int what) {
        switch (what) {
            case 0: return town.atGoals();
            case 1: return town.withGoals();
            case 2: return town.seen;
            case 3: return Integer.bitCount(keptBits);
            case 4: return tape.length;
            case 5: return sheets[0].isNothing() ? NONE : sheets[0].size;
            case 6: return town.withoutMood();
            default: return BAD;
        }
    }

    // ---- what numbers are as told

    private static boolean isMood(int m) {
        return m >= 0 && m <= LAST_MOOD;
    }

    private static boolean isHalf(int what) {
        return what == 0 || what == 1;
    }

    private static boolean isSearched(int n) {
        return n >= 0 && n <= MOST_SEARCHED_STEPS;
    }

    private static boolean isSheet(int k) {
        return k >= 0 && k < SHEETS;
    }

    private static boolean isLane(int lane) {
        return lane >= 0 && lane <= LAST_LANE;
    }

    private boolean isTotalOrOne(int what) {
        return what == 0 || (what >= BY_NUMBER && town.hasOne(what - BY_NUMBER));
    }

    private boolean isTellableMood(Sheet from, int i) {
        return town.hasOne(from.row[i]) && isMood(from.row[i + 1]);
    }

    /** MOOD i of a row of so many, the first one highest: so rows by number are rows in order. */
    private static int digitOf(int row, int i, int length) {
        return (row >> (2 * (length - 1 - i))) & LAST_MOOD;
    }

    private static int rowsOf(int length) {
        return 1 << (2 * length);
    }

    private static int flipOf(int mood) {
        return mood == 0 ? 0 : mood == LAST_MOOD ? 1 : mood + 1;
    }

    private static long commonDivisor(long x, long y) {
        long a = x;
        long b = y;
        for (int i = 0; i < 100 && b != 0; i++) {
            long left = a % b;
            a = b;
            b = left;
        }
        return a;
    }

    /** All that an IMAGE keeps; one place more than PEOPLE can be, for the portrait. */
    private static final class Town {
        int wide;
        int high;
        int walls;
        int people;
        int press;
        int step;
        int seen;
        final int[] cells;
        final int[] moods;
        final int[] still;
        final int[] goals;
        final int[] pulls;
        final int[] seenOnes;
        final int[] seenWays;

        Town() {
            cells = new int[MOST_PEOPLE + 1];
            moods = new int[MOST_PEOPLE + 1];
            still = new int[MOST_PEOPLE + 1];
            goals = new int[MOST_PEOPLE + 1];
            pulls = new int[MOST_FAR + 1];
            seenOnes = new int[MOST_SEEN];
            seenWays = new int[MOST_SEEN];
            clear();
        }

        void clear() {
            wide = 3;
            high = 3;
            walls = 0;
            people = 0;
            press = 0;
            step = 0;
            seen = 0;
            Arrays.fill(goals, NONE);
            for (int d = 1; d <= MOST_FAR; d++) {
                pulls[d] = MOST_FAR + 1 - d;
            }
        }

        void copyFrom(Town other) {
            wide = other.wide;
            high = other.high;
            walls = other.walls;
            people = other.people;
            press = other.press;
            step = other.step;
            seen = other.seen;
            copyPlacesFrom(other);
            System.arraycopy(other.still, 0, still, 0, still.length);
            System.arraycopy(other.goals, 0, goals, 0, goals.length);
            System.arraycopy(other.pulls, 0, pulls, 0, pulls.length);
            System.arraycopy(other.seenOnes, 0, seenOnes, 0, seenOnes.length);
            System.arraycopy(other.seenWays, 0, seenWays, 0, seenWays.length);
        }

        /** All that STEPS change in PEOPLE; a search goes back to it many times. */
        void copyPlacesFrom(Town other) {
            System.arraycopy(other.cells, 0, cells, 0, cells.length);
            System.arraycopy(other.moods, 0, moods, 0, moods.length);
        }

        int size() {
            return wide * high;
        }

        boolean hasOne(int p) {
            return p >= 0 && p < people;
        }

        boolean hasCell(int c) {
            return c >= 0 && c < size();
        }

        boolean hasWall(int c) {
            return ((walls >> c) & 1) != 0;
        }

        int whoIsIn(int c) {
            for (int p = 0; p < people; p++) {
                if (cells[p] == c) {
                    return p;
                }
            }
            return NONE;
        }

        boolean isFree(int c) {
            return !hasWall(c) && whoIsIn(c) == NONE;
        }

        boolean canHold(int p, int c) {
            return c == cells[p] || isFree(c);
        }

        int columnOf(int c) {
            return wide > 0 ? c % wide : 0;
        }

        int rowOf(int c) {
            return wide > 0 ? c / wide : 0;
        }

        int farBetween(int a, int b) {
            return Math.abs(columnOf(cells[a]) - columnOf(cells[b])) + Math.abs(rowOf(cells[a]) - rowOf(cells[b]));
        }

        void addOne(int c, int m, int isStill) {
            if (people < cells.length) {
                cells[people] = c;
                moods[people] = m;
                still[people] = isStill;
                people++;
            }
        }

        void dropOne(int p) {
            for (int i = p; i + 1 < people; i++) {
                cells[i] = cells[i + 1];
                moods[i] = moods[i + 1];
                still[i] = still[i + 1];
                goals[i] = goals[i + 1];
            }
            people--;
        }

        int atGoals() {
            int n = 0;
            for (int p = 0; p < people; p++) {
                n += cells[p] == goals[p] ? 1 : 0;
            }
            return n;
        }

        int withGoals() {
            int n = 0;
            for (int p = 0; p < people; p++) {
                n += goals[p] != NONE ? 1 : 0;
            }
            return n;
        }

        boolean allAtGoals() {
            return atGoals() == withGoals();
        }

        int withoutMood() {
            int n = 0;
            for (int p = 0; p < people; p++) {
                n += moods[p] == 0 ? 1 : 0;
            }
            return n;
        }

        int moodInRow(int row, int p) {
            return digitOf(row, p, people);
        }

        void setMoods(int row) {
            for (int p = 0; p < people; p++) {
                moods[p] = moodInRow(row, p);
            }
        }

        int unlikeMoods(int row) {
            int n = 0;
            for (int p = 0; p < people; p++) {
                n += moods[p] != moodInRow(row, p) ? 1 : 0;
            }
            return n;
        }

        long weightOfAllFlips() {
            long all = 1;
            for (int p = 0; p < people; p++) {
                all *= moods[p] == 0 ? 1 : MOST_ODDS;
            }
            return all;
        }

        /** CELLS and MOODS of all in one number; 7 bits a ONE. */
        long mark() {
            long sum = 0;
            for (int p = 0; p < people; p++) {
                sum = sum * 128 + cells[p] * 4 + moods[p];
            }
            return sum;
        }
    }

    /** What a STEP does; its rows hold what the latest STEP or weighing found. */
    private static final class Walk {
        final int[] columns;
        final int[] rows;
        final int[] easts;
        final int[] souths;
        final int[] ways;
        int went;
        int flipped;

        Walk() {
            columns = new int[MOST_PEOPLE + 1];
            rows = new int[MOST_PEOPLE + 1];
            easts = new int[MOST_PEOPLE + 1];
            souths = new int[MOST_PEOPLE + 1];
            ways = new int[MOST_PEOPLE + 1];
        }

        /** FORCES and WISHES of all. */
        void weigh(Town town) {
            for (int p = 0; p < town.people; p++) {
                columns[p] = town.columnOf(town.cells[p]);
                rows[p] = town.rowOf(town.cells[p]);
                easts[p] = 0;
                souths[p] = 0;
            }
            for (int p = 0; p < town.people; p++) {
                for (int q = p + 1; q < town.people && town.moods[p] != 0; q++) {
                    if (town.moods[q] != 0) {
                        weighPair(town, p, q);
                    }
                }
            }
            for (int p = 0; p < town.people; p++) {
                ways[p] = town.still[p] != 0 ? NOWHERE : wayBy(easts[p], souths[p]);
            }
        }

        /** Two draw or push each other equally, so one look serves both. */
        private void weighPair(Town town, int p, int q) {
            int east = columns[q] - columns[p];
            int south = rows[q] - rows[p];
            int far = Math.abs(east) + Math.abs(south);
            if (far > MOST_FAR) {
                return;
            }
            int strength = town.moods[p] == town.moods[q] ? -town.pulls[far] : town.pulls[far];
            int eastward = strength * Integer.compare(east, 0);
            int southward = strength * Integer.compare(south, 0);
            easts[p] += eastward;
            easts[q] -= eastward;
            souths[p] += southward;
            souths[q] -= southward;
        }

        private static int wayBy(int east, int south) {
            if (east != 0 && Math.abs(east) >= Math.abs(south)) {
                return east > 0 ? EAST : WEST;
            }
            if (south != 0) {
                return south > 0 ? SOUTH : NORTH;
            }
            return NOWHERE;
        }

        void takeStep(Town town) {
            weigh(town);
            moveAll(town);
            flipAll(town);
            town.step++;
        }

        /** A town AT REST stays so: the STEPS that are left are counted alone. */
        void takeSteps(Town town, int n) {
            int last = town.step + n;
            for (int i = 0; i < n; i++) {
                takeStep(town);
                if (changedNothing()) {
                    break;
                }
            }
            town.step = last;
        }

        boolean changedNothing() {
            return went == 0 && flipped == 0;
        }

        private void moveAll(Town town) {
            int taken = town.walls;
            for (int p = 0; p < town.people; p++) {
                taken |= 1 << town.cells[p];
            }
            went = 0;
            for (int p = 0; p < town.people; p++) {
                int column = columns[p] + (ways[p] == EAST ? 1 : ways[p] == WEST ? -1 : 0);
                int row = rows[p] + (ways[p] == SOUTH ? 1 : ways[p] == NORTH ? -1 : 0);
                int c = row * town.wide + column;
                boolean inTown = column >= 0 && column < town.wide && row >= 0 && row < town.high;
                if (ways[p] != NOWHERE && inTown && ((taken >> c) & 1) == 0) {
                    taken = (taken & ~(1 << town.cells[p])) | (1 << c);
                    town.cells[p] = c;
                    columns[p] = column;
                    rows[p] = row;
                    went |= 1 << p;
                }
            }
        }

        private void flipAll(Town town) {
            flipped = 0;
            for (int p = 0; p < town.people && town.press > 0; p++) {
                if (town.moods[p] != 0 && nextTo(p, town.people) >= town.press) {
                    town.moods[p] = flipOf(town.moods[p]);
                    flipped |= 1 << p;
                }
            }
        }

        private int nextTo(int p, int people) {
            int n = 0;
            for (int q = 0; q < people; q++) {
                n += Math.abs(columns[q] - columns[p]) + Math.abs(rows[q] - rows[p]) == 1 ? 1 : 0;
            }
            return n;
        }

        boolean didGo(int p) {
            return ((went >> p) & 1) != 0;
        }

        int deedOf(int p) {
            return didGo(p) ? ways[p] : NOWHERE;
        }
    }

    /** What would be: tried in a town of its own, so that the one there is stays. Two found numbers come as one. */
    private static final class Search {
        private static final int UPPER = 1024;

        private final Walk walk;
        private final Town trial;
        private final long[] marks;

        Search(Walk walk) {
            this.walk = walk;
            trial = new Town();
            marks = new long[MOST_STEPS + 1];
        }

        static int upperOf(int found) {
            return found / UPPER;
        }

        static int lowerOf(int found) {
            return found % UPPER;
        }

        Town behind(Town now, int n) {
            trial.copyFrom(now);
            walk.takeSteps(trial, n);
            return trial;
        }

        int stuckOnes(Town now) {
            trial.copyFrom(now);
            walk.takeStep(trial);
            int bits = 0;
            for (int p = 0; p < now.people; p++) {
                if (walk.ways[p] != NOWHERE && !walk.didGo(p)) {
                    bits |= 1 << p;
                }
            }
            return bits;
        }

        int stepsToRest(Town now) {
            trial.copyFrom(now);
            for (int n = 0; n <= MOST_STEPS; n++) {
                if (isTrialAtRest()) {
                    return n;
                }
            }
            return NONE;
        }

        /** Takes the STEP by which it is told. */
        private boolean isTrialAtRest() {
            walk.takeStep(trial);
            return walk.changedNothing();
        }

        /** Upper: STEPS until what comes again is there first; lower: how many more until it comes again. */
        int firstReturn(Town now) {
            trial.copyFrom(now);
            for (int n = 0; n <= MOST_STEPS; n++) {
                long mark = trial.mark();
                for (int first = 0; first < n; first++) {
                    if (marks[first] == mark) {
                        return first * UPPER + n - first;
                    }
                }
                marks[n] = mark;
                walk.takeStep(trial);
            }
            return NONE;
        }

        int fewestChanged(Town now, int n) {
            trial.copyFrom(now);
            for (int changed = 0; changed <= now.people; changed++) {
                for (int row = 0; row < rowsOf(now.people); row++) {
                    if (now.unlikeMoods(row) == changed && reachesGoals(now, row, n)) {
                        return row;
                    }
                }
            }
            return NONE;
        }

        private boolean reachesGoals(Town now, int row, int n) {
            trial.copyPlacesFrom(now);
            trial.setMoods(row);
            walk.takeSteps(trial, n);
            return trial.allAtGoals();
        }

        int takenOut(Town now) {
            int bits = 0;
            for (int p = 0; p < now.people; p++) {
                trial.copyFrom(now);
                trial.dropOne(p);
                bits |= isTrialAtRest() ? 1 << p : 0;
            }
            return bits;
        }

        int calmCells(Town now, int p) {
            trial.copyFrom(now);
            int bits = 0;
            for (int c = 0; c < now.size(); c++) {
                if (now.canHold(p, c)) {
                    trial.copyPlacesFrom(now);
                    trial.cells[p] = c;
                    bits |= isTrialAtRest() ? 1 << c : 0;
                }
            }
            return bits;
        }

        /** Upper: how many STEPS; lower: the row of MOODS. */
        int soonestParted(Town now, int p, int a, int b) {
            trial.copyFrom(now);
            for (int steps = 0; steps <= MOST_NURSED_STEPS; steps++) {
                for (int row = 0; row < rowsOf(steps); row++) {
                    nurseTrial(now, p, row, steps);
                    if (trial.farBetween(a, b) > 1) {
                        return steps * UPPER + row;
                    }
                }
            }
            return NONE;
        }

        private void nurseTrial(Town now, int p, int row, int steps) {
            trial.copyPlacesFrom(now);
            for (int i = 0; i < steps; i++) {
                trial.moods[p] = digitOf(row, i, steps);
                walk.takeStep(trial);
            }
        }

        /** Upper: the CELL; lower: how many are at their GOALS. */
        int bestNail(Town now, int m, int n) {
            int best = NONE;
            for (int c = 0; c < now.size(); c++) {
                if (now.isFree(c)) {
                    trial.copyFrom(now);
                    trial.goals[now.people] = NONE;
                    trial.addOne(c, m, 1);
                    walk.takeSteps(trial, n);
                    int there = trial.atGoals();
                    if (best == NONE || there > lowerOf(best)) {
                        best = c * UPPER + there;
                    }
                }
            }
            return best;
        }

        /** Of all flips, each as often as its odds tell, how many lead to all GOALS. */
        long weightAtGoals(Town now, int v, int n) {
            trial.copyFrom(now);
            long sum = 0;
            for (int flips = 0; flips < 1 << now.people; flips++) {
                long weight = weightOf(now, v, flips);
                if (weight > 0) {
                    flipTrial(now, flips);
                    walk.takeSteps(trial, n);
                    sum += trial.allAtGoals() ? weight : 0;
                }
            }
            return sum;
        }

        /** Who has no MOOD has no flip to be told apart: his bit set would count him twice. */
        private static long weightOf(Town now, int v, int flips) {
            long weight = 1;
            for (int p = 0; p < now.people; p++) {
                boolean isFlip = ((flips >> p) & 1) != 0;
                if (now.moods[p] == 0) {
                    weight *= isFlip ? 0 : 1;
                } else {
                    weight *= isFlip ? v : MOST_ODDS - v;
                }
            }
            return weight;
        }

        private void flipTrial(Town now, int flips) {
            trial.copyPlacesFrom(now);
            for (int p = 0; p < now.people; p++) {
                if (((flips >> p) & 1) != 0) {
                    trial.moods[p] = flipOf(now.moods[p]);
                }
            }
        }

        int howManyFit(Town now) {
            trial.copyFrom(now);
            int n = 0;
            for (int row = 0; row < rowsOf(now.people); row++) {
                n += fits(now, row) ? 1 : 0;
            }
            return n;
        }

        int fittingMoods(Town now, int p) {
            trial.copyFrom(now);
            int bits = 0;
            for (int row = 0; row < rowsOf(now.people); row++) {
                bits |= fits(now, row) ? 1 << now.moodInRow(row, p) : 0;
            }
            return bits;
        }

        private boolean fits(Town now, int row) {
            trial.copyPlacesFrom(now);
            trial.setMoods(row);
            walk.takeStep(trial);
            for (int i = 0; i < now.seen; i++) {
                if (walk.deedOf(now.seenOnes[i]) != now.seenWays[i]) {
                    return false;
                }
            }
            return true;
        }

        /** How many times a ONE went, while a seed tells whose MOOD becomes 1 more ahead of each STEP. */
        int wentBySeed(Town now, int seed, int n) {
            if (now.people < 1) {
                return STATE;
            }
            trial.copyFrom(now);
            int s = seed;
            int times = 0;
            for (int i = 0; i < n; i++) {
                s = s * 1103515245 + 12345;
                int p = ((s >>> 16) & 0x7FFF) % now.people;
                trial.moods[p] = (trial.moods[p] + 1) & LAST_MOOD;
                walk.takeStep(trial);
                times += Integer.bitCount(walk.went);
            }
            return times;
        }
    }

    /** THE TAPE, and the TOKEN that was read of it latest. */
    private static final class Tape {
        static final int NO_TOKEN = 0, NAME = 1, NUMBER = 2, STOP = 3, END = 4;
        private static final int MOST_FIGURES = 2;

        final byte[] bytes;
        int length;
        int kind;
        int first;
        int value;
        private int place;

        Tape() {
            bytes = new byte[TAPE_BYTES];
        }

        boolean append(int c) {
            if (length >= bytes.length) {
                return false;
            }
            bytes[length] = (byte) c;
            length++;
            return true;
        }

        void rewind() {
            place = 0;
        }

        void nextToken() {
            while (place < length && bytes[place] == ' ') {
                place++;
            }
            first = place;
            kind = END;
            if (place < length) {
                kind = kindOf(bytes[place]);
                place++;
            }
            while (place < length && (kind == NAME || kind == NUMBER) && kindOf(bytes[place]) == kind) {
                place++;
            }
            if (kind == NUMBER) {
                weighFigures();
            }
        }

        private static int kindOf(int c) {
            if (c >= 'a' && c <= 'z') {
                return NAME;
            }
            if (c >= '0' && c <= '9') {
                return NUMBER;
            }
            return c == ';' ? STOP : NO_TOKEN;
        }

        /** All figures are passed, so that what is too long is refused as one. */
        private void weighFigures() {
            value = 0;
            for (int i = first; i < place; i++) {
                value = value * 10 + bytes[i] - '0';
            }
            if (place - first > MOST_FIGURES) {
                kind = NO_TOKEN;
            }
        }

        boolean isName(String name) {
            if (kind != NAME || place - first != name.length()) {
                return false;
            }
            for (int i = 0; i < name.length(); i++) {
                if (bytes[first + i] != name.charAt(i)) {
                    return false;
                }
            }
            return true;
        }
    }

    /** Reads a text into a town of its own; behind a FAULT nothing more is read. */
    private static final class Telling {
        private static final int TOKEN_FAULT = 1, STAND_FAULT = 2, BOUNDS_FAULT = 3;
        private static final int TWICE_FAULT = 4, CROWD_FAULT = 5, MISSING_FAULT = 6;

        final Town told;
        int lines;
        int fault;
        int faultPlace;
        private final Tape tape;
        private boolean townTold;
        private boolean pullTold;
        private boolean pressTold;

        Telling(Tape tape) {
            this.tape = tape;
            told = new Town();
        }

        void takeTape() {
            told.clear();
            lines = 0;
            fault = 0;
            faultPlace = 0;
            townTold = false;
            pullTold = false;
            pressTold = false;
            tape.rewind();
            tape.nextToken();
            while (fault == 0 && tape.kind != Tape.END && lines <= TAPE_BYTES) {
                takeLine();
                takeStop();
                lines++;
                tape.nextToken();
            }
            if (fault == 0 && namesWhatIsNot()) {
                refuse(MISSING_FAULT, tape.length);
            }
        }

        private void refuse(int why, int place) {
            fault = why;
            faultPlace = place;
        }

        private void takeLine() {
            if (tape.kind == Tape.NO_TOKEN) {
                refuse(TOKEN_FAULT, tape.first);
            } else if (tape.isName("town")) {
                takeTown();
            } else if (tape.isName("wall")) {
                takeWall();
            } else if (tape.isName("at")) {
                takeOne(0);
            } else if (tape.isName("still")) {
                takeOne(1);
            } else if (tape.isName("pull")) {
                takePull();
            } else if (tape.isName("press")) {
                takePress();
            } else if (tape.isName("goal")) {
                takeGoal();
            } else {
                refuse(STAND_FAULT, tape.first);
            }
        }

        /** The next TOKEN, if it may be read and is of the kind that must stand there. */
        private boolean takeToken(int kind) {
            if (fault != 0) {
                return false;
            }
            tape.nextToken();
            if (tape.kind == kind) {
                return true;
            }
            refuse(tape.kind == Tape.NO_TOKEN ? TOKEN_FAULT : STAND_FAULT, tape.first);
            return false;
        }

        private void takeStop() {
            takeToken(Tape.STOP);
        }

        /** 0 behind a FAULT. */
        private int takeNumber(int low, int high) {
            if (!takeToken(Tape.NUMBER)) {
                return 0;
            }
            if (tape.value < low || tape.value > high) {
                refuse(BOUNDS_FAULT, tape.first);
                return 0;
            }
            return tape.value;
        }

        private void refuseTaken(int c) {
            if (fault == 0 && !told.isFree(c)) {
                refuse(TWICE_FAULT, tape.first);
            }
        }

        private void refuseSecond(boolean before) {
            if (before) {
                refuse(TWICE_FAULT, tape.first);
            }
        }

        private void takeTown() {
            refuseSecond(townTold);
            townTold = true;
            told.wide = takeNumber(2, MOST_SIDE);
            told.high = takeNumber(2, MOST_SIDE);
        }

        private void takeWall() {
            int c = takeNumber(0, LAST_CELL);
            refuseTaken(c);
            told.walls |= 1 << c;
        }

        private void takeOne(int still) {
            if (told.people >= MOST_PEOPLE) {
                refuse(CROWD_FAULT, tape.first);
                return;
            }
            int c = takeNumber(0, LAST_CELL);
            refuseTaken(c);
            int m = takeNumber(0, LAST_MOOD);
            told.addOne(c, m, still);
        }

        private void takePull() {
            refuseSecond(pullTold);
            pullTold = true;
            for (int d = 1; d <= MOST_FAR; d++) {
                told.pulls[d] = takeNumber(0, MOST_PULL);
            }
        }

        private void takePress() {
            refuseSecond(pressTold);
            pressTold = true;
            told.press = takeNumber(0, MOST_PRESS);
        }

        private void takeGoal() {
            int p = takeNumber(0, MOST_PEOPLE - 1);
            if (fault == 0 && told.goals[p] != NONE) {
                refuse(TWICE_FAULT, tape.first);
            }
            int c = takeNumber(0, LAST_CELL);
            if (fault == 0) {
                told.goals[p] = c;
            }
        }

        private boolean namesWhatIsNot() {
            for (int p = 0; p < told.people; p++) {
                if (!told.hasCell(told.cells[p])) {
                    return true;
                }
            }
            for (int p = 0; p < MOST_PEOPLE; p++) {
                if (told.goals[p] != NONE && (!told.hasOne(p) || !told.hasCell(told.goals[p]))) {
                    return true;
                }
            }
            return told.walls >> told.size() != 0;
        }
    }

    /** A SHEET; its row is made once and used again by each new one. */
    private static final class Sheet {
        private static final int NOTHING = -1;

        final int[] row;
        int size;
        private int lane;

        Sheet() {
            row = new int[MOST_SHEET_CELLS];
            size = NOTHING;
        }

        void renew(int newLane, int n) {
            lane = newLane;
            size = n;
            Arrays.fill(row, 0);
        }

        boolean isNothing() {
            return size == NOTHING;
        }

        /** Nothing can be taken as of any lane: only its CELLS are refused. */
        int faultAs(int asked) {
            return !isNothing() && lane != asked ? CAST_FAULT : 0;
        }

        int faultAt(int i) {
            if (isNothing()) {
                return NULL_FAULT;
            }
            return i < 0 || i >= size ? INDEX_FAULT : 0;
        }

        int faultOfPair(int i) {
            int found = faultAt(i);
            return found != 0 ? found : faultAt(i + 1);
        }

        void write(int i, int v) {
            if (i >= 0 && i < size) {
                row[i] = lane == 0 ? (byte) v : lane == 1 ? (short) v : v;
            }
        }
    }
}
