/**
 * Parts of a picture of 16 by 16 dots, dark and light, joined by sides or by sides and corners.
 * The promises that the calls keep are those of DOC.md.
 */
public final class BlobRuns {
    public static final int NONE = -1, UNKNOWN = -1000000001, OUTSIDE = -1000000002, NOT = -1000000003, FULL = -1000000004;

    private static final int SIDE = 16, LAST = 15, ALL_COLUMNS = 65535, DOTS = 256;
    private static final int BY_SIDES = 4, BY_CORNERS = 8;
    private static final int LARGEST_SEED = 2147483647;
    private static final int IMAGES = 2, UNDOABLE = 30, DRIFTS = 60;
    // A row has 16 runs at most, dark and light ones together.
    private static final int RUNS = 256;
    // Numbers of runs come out of arrays; cut to these bits, none of them can leave an array of RUNS.
    private static final int RUN_BITS = 255;
    // A picture laid by: its rows, and behind them its mode.
    private static final int LAID_BY = SIDE + 1;

    private final Picture picture = new Picture();
    private final Parting parting = new Parting();
    private final Runs trial = new Runs();
    private final Past past = new Past();
    private final Images images = new Images();
    private int theSeed = 0;
    // Parting is dear, so it waits until somebody asks for parts.
    private boolean stale = true;

    public BlobRuns() {
    }

    // ---- the picture

    public int told(int what) {
        switch (what) {
            case 0: return picture.joinedBy;
            case 1: return picture.darkDots();
            case 2: return parted().partCount;
            case 3: return parted().holeCount;
            case 4: return parted().lightCount;
            case 5: return parted().partCount - parted().holeCount + 1000;
            case 6: return picture.allRuns();
            case 7: return parted().allRims();
            case 8: return parted().deepest();
            case 9: return parted().largest();
            case 10: return past.count;
            default: return OUTSIDE;
        }
    }

    public int rowAt(int r, int what) {
        if (!isLine(r)) {
            return UNKNOWN;
        }
        switch (what) {
            case 0: return picture.line(r);
            case 1: return runsOf(picture.line(r));
            default: return OUTSIDE;
        }
    }

    public int dot(int r, int c, int what) {
        if (!isLine(r) || !isLine(c)) {
            return UNKNOWN;
        }
        boolean dark = picture.isDark(r, c);
        switch (what) {
            case 0: return dark ? 1 : 0;
            case 1: return parted().partAt(r, c);
            case 2: return parted().holeAt(r, c);
            case 3: return dark ? NONE : parted().joinsAt(r, c, picture.cornersJoin());
            case 4: return dark ? splitsAt(r, c, parted().partCount) : NONE;
            default: return OUTSIDE;
        }
    }

    public int part(int p, int what) {
        Parting now = parted();
        if (!now.hasPart(p)) {
            return UNKNOWN;
        }
        int g = now.groupOfPart(p);
        switch (what) {
            case 0: return now.sizeOf(g);
            case 1: return now.rimOf(g);
            case 2: return now.topOf(g);
            case 3: return now.bottomOf(g);
            case 4: return now.leftOf(g);
            case 5: return now.rightOf(g);
            case 6: return now.holesOfPart(p);
            case 7: return now.holeAround(p);
            case 8: return now.depthOf(p);
            case 9: return now.leastPlaceOf(g);
            default: return OUTSIDE;
        }
    }

    public int hole(int h, int what) {
        Parting now = parted();
        if (!now.hasHole(h)) {
            return UNKNOWN;
        }
        int g = now.groupOfHole(h);
        switch (what) {
            case 0: return now.sizeOf(g);
            case 1: return now.partAround(h);
            case 2: return now.partsInHole(h);
            case 3: return now.leastPlaceOf(g);
            default: return OUTSIDE;
        }
    }

    // ---- deeds

    public int row(int r, int set) {
        if (!isLine(r)) {
            return UNKNOWN;
        }
        if (set < 0 || set > ALL_COLUMNS) {
            return OUTSIDE;
        }
        remember();
        picture.putLine(r, set);
        return parted().partCount;
    }

    public int turn(int r, int c) {
        if (!isLine(r) || !isLine(c)) {
            return UNKNOWN;
        }
        remember();
        picture.flip(r, 1 << c);
        return picture.isDark(r, c) ? 1 : 0;
    }

    public int wipe(int p) {
        Parting now = parted();
        return now.hasPart(p) ? flipGroup(now.groupOfPart(p)) : UNKNOWN;
    }

    public int fill(int h) {
        Parting now = parted();
        return now.hasHole(h) ? flipGroup(now.groupOfHole(h)) : UNKNOWN;
    }

    public int grow() {
        remember();
        int before = picture.darkDots();
        picture.becomeGrown();
        return picture.darkDots() - before;
    }

    public int shrink() {
        remember();
        int before = picture.darkDots();
        picture.becomeShrunk();
        return before - picture.darkDots();
    }

    public int move(int down, int right) {
        if (down < -LAST || down > LAST || right < -LAST || right > LAST) {
            return OUTSIDE;
        }
        remember();
        picture.becomeMoved(down, right);
        return picture.darkDots();
    }

    public int over() {
        remember();
        picture.becomeOver();
        return picture.darkDots();
    }

    public int mode(int m) {
        if (m != BY_SIDES && m != BY_CORNERS) {
            return OUTSIDE;
        }
        if (m == picture.joinedBy) {
            return NOT;
        }
        remember();
        picture.joinedBy = m;
        return parted().partCount;
    }

    public int drift(int n) {
        if (n < 1 || n > DRIFTS) {
            return OUTSIDE;
        }
        for (int i = 0; i < n; i++) {
            int place = drawPlace();
            remember();
            picture.flip(place / SIDE, 1 << place % SIDE);
        }
        return picture.darkDots();
    }

    public int undo(int n) {
        if (n < 1 || n > UNDOABLE) {
            return OUTSIDE;
        }
        if (n > past.count) {
            return NOT;
        }
        past.goBackBy(n, picture);
        stale = true;
        return picture.darkDots();
    }

    // ---- asked

    public int alike(int p, int q) {
        Parting now = parted();
        if (!now.hasPart(p) || !now.hasPart(q) || p == q) {
            return UNKNOWN;
        }
        return now.sameMoved(now.groupOfPart(p), now.groupOfPart(q)) ? 1 : 0;
    }

    public int small(int n) {
        return n < 0 || n > DOTS ? OUTSIDE : parted().partsUpTo(n);
    }

    // ---- images

    public int seed(int v) {
        if (v < 0) {
            return OUTSIDE;
        }
        int was = theSeed;
        theSeed = v;
        return was;
    }

    public int keep(int i) {
        if (!isImage(i)) {
            return UNKNOWN;
        }
        images.take(i, picture, theSeed);
        past.forget();
        return 1;
    }

    public int goBack(int i) {
        if (!isImage(i)) {
            return UNKNOWN;
        }
        if (!images.isTaken(i)) {
            return NOT;
        }
        images.show(i, picture);
        theSeed = images.seedOf(i);
        past.forget();
        stale = true;
        return 1;
    }

    // ---- helpers of the calls

    private static boolean isLine(int n) {
        return n >= 0 && n < SIDE;
    }

    private static boolean isImage(int i) {
        return i >= 0 && i < IMAGES;
    }

    /** Runs of ones in a set: each begins at a column whose left neighbour is not in the set. */
    private static int runsOf(int set) {
        return Integer.bitCount(set & ~(set << 1));
    }

    private Parting parted() {
        if (stale) {
            parting.read(picture);
            stale = false;
        }
        return parting;
    }

    /** Ahead of every deed: it can be undone, and the parting is no longer that of the picture. */
    private void remember() {
        past.push(picture);
        stale = true;
    }

    private int flipGroup(int g) {
        remember();
        parting.flipDotsOf(g, picture);
        return parting.sizeOf(g);
    }

    private int drawPlace() {
        // Wrapping at 2 to the 32 loses nothing of what is left over by 2 to the 31.
        theSeed = (theSeed * 1103515245 + 12345) & LARGEST_SEED;
        return theSeed / 65536 % DOTS;
    }

    /** Only the dot's own part changes when it turns light, so the difference of all parts tells. */
    private int splitsAt(int r, int c, int partsBefore) {
        picture.flip(r, 1 << c);
        trial.read(picture);
        picture.flip(r, 1 << c);
        return trial.darkGroups() - partsBefore + 1;
    }

    /** The dots, a set of dark columns for each row, and by what dark ones are joined. */
    private static final class Picture {
        private final int[] rows = new int[SIDE];
        private final int[] next = new int[SIDE];
        private int joinedBy = BY_SIDES;

        boolean cornersJoin() {
            return joinedBy == BY_CORNERS;
        }

        /** Beyond the rim there is nothing dark. */
        int line(int r) {
            return r >= 0 && r < SIDE ? rows[r] : 0;
        }

        void putLine(int r, int set) {
            if (r >= 0 && r < SIDE) {
                rows[r] = set & ALL_COLUMNS;
            }
        }

        boolean isDark(int r, int c) {
            return c >= 0 && c < SIDE && (line(r) >> c & 1) == 1;
        }

        void flip(int r, int columns) {
            putLine(r, line(r) ^ columns);
        }

        int darkDots() {
            int dots = 0;
            for (int r = 0; r < SIDE; r++) {
                dots += Integer.bitCount(rows[r]);
            }
            return dots;
        }

        int allRuns() {
            int runs = 0;
            for (int r = 0; r < SIDE; r++) {
                runs += runsOf(rows[r]);
            }
            return runs;
        }

        /** Sides of a run that are next to no dark dot: its two ends, and what is free above and below. */
        int freeSides(int r, int run) {
            return 2 + Integer.bitCount(run & ~line(r - 1)) + Integer.bitCount(run & ~line(r + 1));
        }

        void becomeGrown() {
            for (int r = 0; r < SIDE; r++) {
                int upright = line(r - 1) | line(r + 1);
                next[r] = cornersJoin() ? widened(rows[r] | upright) : widened(rows[r]) | upright;
            }
            becomeNext();
        }

        void becomeShrunk() {
            for (int r = 0; r < SIDE; r++) {
                int upright = line(r - 1) & line(r + 1);
                next[r] = cornersJoin() ? narrowed(rows[r] & upright) : narrowed(rows[r]) & upright;
            }
            becomeNext();
        }

        void becomeMoved(int down, int right) {
            for (int r = 0; r < SIDE; r++) {
                next[r] = slid(line(r - down), right);
            }
            becomeNext();
        }

        void becomeOver() {
            for (int r = 0; r < SIDE; r++) {
                rows[r] = ~rows[r] & ALL_COLUMNS;
            }
        }

        void layBy(int[] shelf, int at) {
            if (at < 0 || at > shelf.length - LAID_BY) {
                return;
            }
            System.arraycopy(rows, 0, shelf, at, SIDE);
            shelf[at + SIDE] = joinedBy;
        }

        void takeUp(int[] shelf, int at) {
            if (at < 0 || at > shelf.length - LAID_BY) {
                return;
            }
            System.arraycopy(shelf, at, rows, 0, SIDE);
            joinedBy = shelf[at + SIDE];
        }

        private void becomeNext() {
            System.arraycopy(next, 0, rows, 0, SIDE);
        }

        private static int widened(int set) {
            return (set | set << 1 | set >> 1) & ALL_COLUMNS;
        }

        private static int narrowed(int set) {
            return set & set << 1 & set >> 1;
        }

        private static int slid(int set, int right) {
            return right < 0 ? set >> -right : set << right & ALL_COLUMNS;
        }
    }

    /** Runs of dots of one colour, numbered by their places, in groups that are joined from row to row. */
    private static final class Runs {
        private final int[] first = new int[SIDE + 1];
        private final int[] changes = new int[SIDE];
        private final int[] startOf = new int[RUNS];
        private final int[] endOf = new int[RUNS];
        private final int[] rowOf = new int[RUNS];
        private final boolean[] dark = new boolean[RUNS];
        // A run of the same group with a lesser number, or the run itself; after read() the group's least.
        private final int[] towards = new int[RUNS];
        private int count = 0;

        void read(Picture picture) {
            count = 0;
            for (int r = 0; r < SIDE; r++) {
                first[r] = count;
                changes[r] = (picture.line(r) ^ picture.line(r) << 1) & ALL_COLUMNS - 1;
                cut(r, picture.line(r));
            }
            first[SIDE] = count;
            int reach = picture.cornersJoin() ? 1 : 0;
            for (int r = 1; r < SIDE; r++) {
                joinToRowAbove(r, true, reach);
                joinToRowAbove(r, false, 1 - reach);
            }
            settle();
        }

        int darkGroups() {
            int groups = 0;
            for (int i = 0; i < count && i < RUNS; i++) {
                groups += dark[i] && towards[i] == i ? 1 : 0;
            }
            return groups;
        }

        boolean isDark(int i) {
            return dark[i & RUN_BITS];
        }

        int groupOf(int i) {
            return towards[i & RUN_BITS];
        }

        int lineOf(int i) {
            return rowOf[i & RUN_BITS];
        }

        int start(int i) {
            return startOf[i & RUN_BITS];
        }

        int end(int i) {
            return endOf[i & RUN_BITS];
        }

        int length(int i) {
            return end(i) - start(i) + 1;
        }

        int columns(int i) {
            return (2 << end(i)) - (1 << start(i));
        }

        /** Each change of colour up to a column begins one run more. */
        int runAt(int r, int c) {
            return first[r & LAST] + Integer.bitCount(changes[r & LAST] & (2 << c) - 1);
        }

        private void cut(int r, int set) {
            int start = 0;
            for (int c = 1; c <= SIDE; c++) {
                if (c == SIDE || (set >> c & 1) != (set >> start & 1)) {
                    add(r, start, c - 1, (set >> start & 1) == 1);
                    start = c;
                }
            }
        }

        private void add(int r, int start, int end, boolean isDark) {
            int i = count & RUN_BITS;
            rowOf[i] = r;
            startOf[i] = start;
            endOf[i] = end;
            dark[i] = isDark;
            towards[i] = i;
            count++;
        }

        /** Colours alternate in a row, so every second run is of the colour asked for. */
        private void joinToRowAbove(int r, boolean wanted, int reach) {
            int a = firstOfColour(r - 1, wanted);
            int b = firstOfColour(r, wanted);
            int endA = first[r & LAST];
            int endB = first[(r & LAST) + 1];
            while (a < endA && b < endB) {
                if (start(a) <= end(b) + reach && start(b) <= end(a) + reach) {
                    join(a, b);
                }
                if (end(a) < end(b)) {
                    a += 2;
                } else {
                    b += 2;
                }
            }
        }

        private int firstOfColour(int r, boolean wanted) {
            int i = first[r & LAST];
            return isDark(i) == wanted ? i : i + 1;
        }

        private void join(int a, int b) {
            int x = leastKnown(a);
            int y = leastKnown(b);
            towards[Math.max(x, y) & RUN_BITS] = Math.min(x, y);
        }

        private int leastKnown(int i) {
            int least = i;
            for (int step = 0; step < RUNS && towards[least & RUN_BITS] < least; step++) {
                least = towards[least & RUN_BITS];
            }
            return least;
        }

        /** Lesser runs are settled first, so one step more is enough for each. */
        private void settle() {
            for (int i = 0; i < count && i < RUNS; i++) {
                towards[i] = groupOf(towards[i]);
            }
        }
    }

    /** The parts and holes of a picture. A group bears the number of its least run. */
    private static final class Parting {
        private final Runs runs = new Runs();
        private final int[] size = new int[RUNS];
        private final int[] rim = new int[RUNS];
        private final int[] bottom = new int[RUNS];
        private final int[] left = new int[RUNS];
        private final int[] right = new int[RUNS];
        private final boolean[] reachesRim = new boolean[RUNS];
        // The part's number of a dark group, the hole's of a light one, NONE if that is open.
        private final int[] number = new int[RUNS];
        private final int[] partGroup = new int[RUNS];
        private final int[] holeGroup = new int[RUNS];
        private final int[] touched = new int[8];
        private int partCount = 0;
        private int holeCount = 0;
        private int lightCount = 0;

        void read(Picture picture) {
            runs.read(picture);
            for (int i = 0; i < runs.count && i < RUNS; i++) {
                measure(i, picture);
            }
            partCount = 0;
            holeCount = 0;
            lightCount = 0;
            for (int i = 0; i < runs.count && i < RUNS; i++) {
                if (runs.groupOf(i) == i) {
                    giveNumber(i);
                }
            }
        }

        boolean hasPart(int p) {
            return p >= 0 && p < partCount;
        }

        boolean hasHole(int h) {
            return h >= 0 && h < holeCount;
        }

        int groupOfPart(int p) {
            return partGroup[p & RUN_BITS];
        }

        int groupOfHole(int h) {
            return holeGroup[h & RUN_BITS];
        }

        int sizeOf(int g) {
            return size[g & RUN_BITS];
        }

        int rimOf(int g) {
            return rim[g & RUN_BITS];
        }

        int topOf(int g) {
            return runs.lineOf(g);
        }

        int bottomOf(int g) {
            return bottom[g & RUN_BITS];
        }

        int leftOf(int g) {
            return left[g & RUN_BITS];
        }

        int rightOf(int g) {
            return right[g & RUN_BITS];
        }

        int leastPlaceOf(int g) {
            return runs.lineOf(g) * SIDE + runs.start(g);
        }

        int partAt(int r, int c) {
            return numberAt(r, c, true);
        }

        int holeAt(int r, int c) {
            return numberAt(r, c, false);
        }

        int holeAround(int p) {
            int g = groupOfPart(p);
            return holeAt(runs.lineOf(g) - 1, runs.start(g));
        }

        int partAround(int h) {
            int g = groupOfHole(h);
            return partAt(runs.lineOf(g) - 1, runs.start(g));
        }

        /** What lies around a part begins above it, so the parts on the way out have ever lesser numbers. */
        int depthOf(int p) {
            int depth = 0;
            int h = holeAround(p);
            while (h != NONE && depth < DOTS) {
                depth++;
                h = holeAround(partAround(h));
            }
            return depth;
        }

        int holesOfPart(int p) {
            int holes = 0;
            for (int h = 0; h < holeCount; h++) {
                holes += partAround(h) == p ? 1 : 0;
            }
            return holes;
        }

        int partsInHole(int h) {
            int parts = 0;
            for (int p = 0; p < partCount; p++) {
                parts += holeAround(p) == h ? 1 : 0;
            }
            return parts;
        }

        int allRims() {
            int rims = 0;
            for (int p = 0; p < partCount; p++) {
                rims += rimOf(groupOfPart(p));
            }
            return rims;
        }

        int deepest() {
            int deepest = NONE;
            for (int p = 0; p < partCount; p++) {
                deepest = Math.max(deepest, depthOf(p));
            }
            return deepest;
        }

        int largest() {
            int largest = NONE;
            int most = 0;
            for (int p = 0; p < partCount; p++) {
                int dots = sizeOf(groupOfPart(p));
                if (dots > most) {
                    largest = p;
                    most = dots;
                }
            }
            return largest;
        }

        int partsUpTo(int n) {
            int parts = 0;
            for (int p = 0; p < partCount; p++) {
                parts += sizeOf(groupOfPart(p)) <= n ? 1 : 0;
            }
            return parts;
        }

        int joinsAt(int r, int c, boolean corners) {
            int joins = 0;
            for (int y = r - 1; y <= r + 1; y++) {
                for (int x = c - 1; x <= c + 1; x++) {
                    boolean near = corners || y == r || x == c;
                    int p = near ? partAt(y, x) : NONE;
                    if (p != NONE && joins < touched.length && !isTouched(p, joins)) {
                        touched[joins] = p;
                        joins++;
                    }
                }
            }
            return joins;
        }

        /** Moved, dots keep their order; so the groups are the same if they are so run by run. */
        boolean sameMoved(int g, int k) {
            if (sizeOf(g) != sizeOf(k)) {
                return false;
            }
            int a = g;
            int b = k;
            for (int step = 0; step < RUNS && a < runs.count && b < runs.count; step++) {
                boolean sameRow = runs.lineOf(a) - runs.lineOf(g) == runs.lineOf(b) - runs.lineOf(k);
                boolean sameStart = runs.start(a) - runs.start(g) == runs.start(b) - runs.start(k);
                if (!sameRow || !sameStart || runs.length(a) != runs.length(b)) {
                    return false;
                }
                a = nextOfGroup(a, g);
                b = nextOfGroup(b, k);
            }
            return true;
        }

        void flipDotsOf(int g, Picture picture) {
            for (int i = 0; i < runs.count; i++) {
                if (runs.groupOf(i) == g) {
                    picture.flip(runs.lineOf(i), runs.columns(i));
                }
            }
        }

        private void measure(int i, Picture picture) {
            int r = runs.lineOf(i);
            int start = runs.start(i);
            int end = runs.end(i);
            int g = runs.groupOf(i) & RUN_BITS;
            if (g == i) {
                clear(g);
            }
            size[g] += end - start + 1;
            rim[g] += runs.isDark(i) ? picture.freeSides(r, runs.columns(i)) : 0;
            bottom[g] = r;
            left[g] = Math.min(left[g], start);
            right[g] = Math.max(right[g], end);
            reachesRim[g] = reachesRim[g] || r == 0 || r == LAST || start == 0 || end == LAST;
        }

        private void clear(int g) {
            int at = g & RUN_BITS;
            size[at] = 0;
            rim[at] = 0;
            left[at] = LAST;
            right[at] = 0;
            reachesRim[at] = false;
        }

        private void giveNumber(int g) {
            int at = g & RUN_BITS;
            number[at] = NONE;
            if (runs.isDark(at)) {
                number[at] = partCount;
                partGroup[partCount & RUN_BITS] = at;
                partCount++;
                return;
            }
            lightCount++;
            if (!reachesRim[at]) {
                number[at] = holeCount;
                holeGroup[holeCount & RUN_BITS] = at;
                holeCount++;
            }
        }

        private int numberAt(int r, int c, boolean wanted) {
            if (!isLine(r) || !isLine(c)) {
                return NONE;
            }
            int i = runs.runAt(r, c);
            return runs.isDark(i) == wanted ? number[runs.groupOf(i) & RUN_BITS] : NONE;
        }

        private boolean isTouched(int p, int joins) {
            for (int i = 0; i < joins && i < touched.length; i++) {
                if (touched[i] == p) {
                    return true;
                }
            }
            return false;
        }

        private int nextOfGroup(int after, int g) {
            int i = after + 1;
            while (i < runs.count && runs.groupOf(i) != g) {
                i++;
            }
            return i;
        }
    }

    /** The pictures ahead of the latest deeds, in a ring. */
    private static final class Past {
        private final int[] shelf = new int[UNDOABLE * LAID_BY];
        private int next = 0;
        private int count = 0;

        void push(Picture picture) {
            picture.layBy(shelf, next * LAID_BY);
            next = (next + 1) % UNDOABLE;
            count = Math.min(count + 1, UNDOABLE);
        }

        void goBackBy(int n, Picture picture) {
            next = Math.floorMod(next - n, UNDOABLE);
            count -= n;
            picture.takeUp(shelf, next * LAID_BY);
        }

        void forget() {
            count = 0;
        }
    }

    /** Pictures with the seeds that they had, to go on from. */
    private static final class Images {
        private final int[] shelf = new int[IMAGES * LAID_BY];
        private final int[] seeds = new int[IMAGES];
        private final boolean[] taken = new boolean[IMAGES];

        boolean isTaken(int i) {
            return isImage(i) && taken[i];
        }

        int seedOf(int i) {
            return isImage(i) ? seeds[i] : 0;
        }

        void take(int i, Picture picture, int seedNow) {
            if (!isImage(i)) {
                return;
            }
            picture.layBy(shelf, i * LAID_BY);
            seeds[i] = seedNow;
            taken[i] = true;
        }

        void show(int i, Picture picture) {
            picture.takeUp(shelf, i * LAID_BY);
        }
    }
}
