/**
 * A road on which the height of the children in sight is how fast one may go: the road and
 * its children, drives by the limits, what had better be, and what was seen.
 */
public final class SmallestSpeed {
    public static final int NONE = -1, BAD = -2, NO = -3, FULL = -4;

    /** What BAD is answered as where the document tells -10, and where a fault is counted from. */
    private static final int MINUS_TEN = -10;

    private static final int LAST_CELL = 47;
    private static final int CELLS = 48;
    private static final int LAST_MINUTE = 59;
    private static final int MINUTES = 60;
    private static final int NEVER = 61;
    private static final int FIRST_SIGHT = 10;
    private static final int LAST_LAW = 2;
    private static final int LAST_KIND = 5;
    private static final int DOLL_KIND = 5;
    private static final int TALLEST = 9;
    private static final int MOST_STEPS = 3;
    private static final int CHILDREN = 6;
    private static final int FASTEST = 15;
    private static final int SPEEDS = 20;
    private static final int READINGS = 6;
    private static final int UNDOS = 8;
    private static final int TEXT_BYTES = 150;
    private static final int LAST_BYTE = 127;
    private static final int LAST_CARTERS_START = 50;
    private static final int CARTERS_CHOICES = 6;
    private static final int CARTERS_NEAR = 2;
    private static final int CARTERS_DELAY = 4;
    private static final int CARTERS_PRIZE = 100;
    private static final int LAST_SEED = 999999;
    private static final int MOST_DAYS = 30;

    private final Road now = new Road();
    /** A road to try things on, so that the road itself never changes by a question. */
    private final Road trial = new Road();
    private final Road image0 = new Road();
    private final Road image1 = new Road();
    private boolean kept0;
    private boolean kept1;
    private final RoadText text = new RoadText();
    private final Limits limits = new Limits();
    private final Drives drives = new Drives();
    private final Sightings sightings = new Sightings();
    private int above;
    private int below = 1;
    private int refusedBad;
    private int refusedNo;
    private int refusedFull;

    public SmallestSpeed() {
    }

    // ---- a road

    public int road(int sight, int rule) {
        if (!within(sight, 0, LAST_CELL) || !within(rule, 0, LAST_LAW)) {
            return refuseBad(BAD);
        }
        int were = now.children;
        now.begin(sight, rule);
        return were;
    }

    public int rule(int n) {
        if (!within(n, 0, LAST_LAW)) {
            return refuseBad(BAD);
        }
        int was = now.law;
        now.law = n;
        return was;
    }

    public int sight(int n) {
        if (!within(n, 0, LAST_CELL)) {
            return refuseBad(BAD);
        }
        int was = now.sight;
        now.sight = n;
        return was;
    }

    public int child(int kind, int height, int cell, int steps, int bed) {
        boolean good = within(kind, 0, LAST_KIND) && within(height, 1, TALLEST)
                && isCell(cell) && within(steps, 0, MOST_STEPS) && within(bed, 0, MINUTES);
        if (!good) {
            return refuseBad(BAD);
        }
        if (now.children >= CHILDREN) {
            return refuseFull();
        }
        now.addChild(kind, height, cell, steps, bed);
        return now.children - 1;
    }

    public int stand(int child, int cell) {
        if (!isChild(child) || !isCell(cell)) {
            return refuseBad(BAD);
        }
        int was = now.cell[child];
        now.keepForUndo(child, false, was);
        now.cell[child] = cell;
        return was;
    }

    public int bed(int child, int minute) {
        if (!isChild(child) || !within(minute, 0, MINUTES)) {
            return refuseBad(BAD);
        }
        int was = now.bed[child];
        now.keepForUndo(child, true, was);
        now.bed[child] = minute;
        return was;
    }

    public int undo() {
        if (now.undos <= 0) {
            return refuseNo();
        }
        now.undoLast();
        return now.undos;
    }

    public int type(int c) {
        if (!within(c, 0, LAST_BYTE)) {
            return refuseBad(BAD);
        }
        if (text.length >= TEXT_BYTES) {
            return refuseFull();
        }
        text.append(c);
        return text.length;
    }

    public int clear() {
        int were = text.length;
        text.length = 0;
        return were;
    }

    public int read() {
        int items = text.readInto(trial);
        if (items > 0) {
            now.copyFrom(trial);
        }
        return items;
    }

    public int of(int child, int minute, int what) {
        if (!isChild(child) || !isMinute(minute)) {
            return refuseBad(BAD);
        }
        limits.see(now, minute);
        switch (what) {
            case 0:
                return now.kind[child];
            case 1:
                return now.height[child];
            case 2:
                return limits.cells[child];
            case 3:
                return limits.highs[child];
            case 4:
                return now.steps[child];
            case 5:
                return now.bed[child];
            default:
                return refuseBad(BAD);
        }
    }

    // ---- limits, drives

    public int limit(int cell, int minute, int what) {
        if (!isCell(cell) || !isMinute(minute) || !isZeroOrOne(what)) {
            return refuseBad(MINUS_TEN);
        }
        limits.see(now, minute);
        if (what == 0) {
            return limits.limitIn(now, now.everyChild(), cell);
        }
        return limits.nearestChild(now, cell);
    }

    public int where(int a, int m) {
        if (!isMinute(a) || !within(m, 0, MINUTES)) {
            return refuseBad(BAD);
        }
        return m < a ? NONE : drives.cellOfDrive(now, a, m);
    }

    public int there(int a) {
        if (!isMinute(a)) {
            return refuseBad(BAD);
        }
        return noneIfNever(drives.endOfDrive(now, now.everyChild(), a));
    }

    public int soonest(int a) {
        if (!isMinute(a)) {
            return refuseBad(BAD);
        }
        return noneIfNever(drives.soonestEnd(now, now.everyChild(), a));
    }

    public int start(int a) {
        if (!isMinute(a)) {
            return refuseBad(BAD);
        }
        return drives.bestStart(now, a);
    }

    public int speed(int n) {
        if (!within(n, 0, FASTEST)) {
            return refuseBad(BAD);
        }
        if (now.speeds >= SPEEDS) {
            return refuseFull();
        }
        now.addSpeed(n);
        return now.speeds;
    }

    public int stop() {
        int were = now.speeds;
        now.speeds = 0;
        return were;
    }

    public int fined(int a, int what) {
        if (!isMinute(a) || !within(what, 0, 2)) {
            return refuseBad(MINUS_TEN);
        }
        return drives.driveBySpeeds(now, a, what);
    }

    // ---- what had better be

    public int toBed(int a, int h, int what) {
        if (!isMinute(a) || !within(h, 0, CHILDREN) || !isZeroOrOne(what)) {
            return refuseBad(BAD);
        }
        int sent = drives.bestToBed(now, a, h);
        return what == 0 ? sent : drives.soonestEnd(now, now.everyChild() & ~sent, a);
    }

    public int move(int a) {
        if (!isMinute(a)) {
            return refuseBad(BAD);
        }
        trial.copyFrom(now);
        return drives.bestMove(trial, a);
    }

    public int carters(int a, int what) {
        if (!within(a, 0, LAST_CARTERS_START) || !isZeroOrOne(what)) {
            return refuseBad(MINUS_TEN);
        }
        return drives.restingPairs(now, a, what);
    }

    // ---- what was seen

    public int reading(int cell, int minute, int v) {
        if (!isCell(cell) || !isMinute(minute) || !within(v, 1, TALLEST)) {
            return refuseBad(BAD);
        }
        if (now.readings >= READINGS) {
            return refuseFull();
        }
        now.addReading(cell, minute, v);
        return now.readings;
    }

    public int forget() {
        int were = now.readings;
        now.readings = 0;
        return were;
    }

    public int out(int what) {
        if (!isZeroOrOne(what)) {
            return refuseBad(MINUS_TEN);
        }
        long fitting = sightings.fittingSets(now);
        return what == 0 ? Long.bitCount(fitting) : sightings.inAllSets(now, fitting);
    }

    public int look(int minute) {
        if (!isMinute(minute)) {
            return refuseBad(BAD);
        }
        return sightings.bestCell(now, sightings.fittingSets(now), minute);
    }

    public int dolls() {
        trial.copyFrom(now);
        return sightings.possibleDolls(trial);
    }

    public int days(int seed, int n, int w) {
        if (!within(seed, 0, LAST_SEED) || !within(n, 0, MOST_DAYS) || !within(w, 0, 100)) {
            return refuseBad(BAD);
        }
        if (n == 0) {
            return refuseNo();
        }
        keepFraction(drives.minutesOfDays(now, seed, n, w), n);
        return 1;
    }

    // ---- what there is

    public long part(int what) {
        if (!isZeroOrOne(what)) {
            return refuseBad(BAD);
        }
        return what == 0 ? above : below;
    }

    public int image(int i) {
        if (!isZeroOrOne(i)) {
            return refuseBad(BAD);
        }
        if (i == 0) {
            image0.copyFrom(now);
            kept0 = true;
        } else {
            image1.copyFrom(now);
            kept1 = true;
        }
        return 1;
    }

    public int from(int i) {
        if (!isZeroOrOne(i)) {
            return refuseBad(BAD);
        }
        boolean kept = i == 0 ? kept0 : kept1;
        if (!kept) {
            return refuseNo();
        }
        now.copyFrom(i == 0 ? image0 : image1);
        return 1;
    }

    public int status(int what) {
        switch (what) {
            case 0:
                return refusedBad;
            case 1:
                return refusedNo;
            case 2:
                return refusedFull;
            default:
                return refuseBad(-1);
        }
    }

    public int count(int what) {
        if (!within(what, 0, 6)) {
            return refuseBad(BAD);
        }
        return countOf(what);
    }

    public long digest() {
        long h = 977;
        for (int what = 0; what <= 6; what++) {
            h = 31 * h + countOf(what);
        }
        h = now.digestOn(h);
        h = 31 * h + above;
        return 31 * h + below;
    }

    private int countOf(int what) {
        switch (what) {
            case 0:
                return now.children;
            case 1:
                return now.sight;
            case 2:
                return now.law;
            case 3:
                return now.speeds;
            case 4:
                return now.readings;
            case 5:
                return now.undos;
            default:
                return text.length;
        }
    }

    private void keepFraction(int top, int bottom) {
        above = top;
        below = bottom;
        for (int d = bottom; d > 1; d--) {
            if (top % d == 0 && bottom % d == 0) {
                above = top / d;
                below = bottom / d;
                return;
            }
        }
    }

    private int refuseBad(int answer) {
        refusedBad++;
        return answer;
    }

    private int refuseNo() {
        refusedNo++;
        return NO;
    }

    private int refuseFull() {
        refusedFull++;
        return FULL;
    }

    private boolean isChild(int n) {
        return within(n, 0, now.children - 1);
    }

    private static boolean isCell(int n) {
        return within(n, 0, LAST_CELL);
    }

    private static boolean isMinute(int n) {
        return within(n, 0, LAST_MINUTE);
    }

    private static boolean isZeroOrOne(int n) {
        return within(n, 0, 1);
    }

    private static boolean within(int n, int least, int most) {
        return n >= least && n <= most;
    }

    private static int noneIfNever(int minute) {
        return minute == NEVER ? NONE : minute;
    }

    /** All that an image keeps: sight, law, children, speeds, readings, what may be undone. */
    private static final class Road {
        int sight = FIRST_SIGHT;
        int law;
        int children;
        final int[] kind = new int[CHILDREN];
        final int[] height = new int[CHILDREN];
        final int[] cell = new int[CHILDREN];
        final int[] steps = new int[CHILDREN];
        final int[] bed = new int[CHILDREN];
        int speeds;
        final int[] speed = new int[SPEEDS];
        int readings;
        final int[] readCell = new int[READINGS];
        final int[] readMinute = new int[READINGS];
        final int[] readLimit = new int[READINGS];
        int undos;
        final int[] undoChild = new int[UNDOS];
        final boolean[] undoBed = new boolean[UNDOS];
        final int[] undoWas = new int[UNDOS];

        void begin(int newSight, int newLaw) {
            sight = newSight;
            law = newLaw;
            children = 0;
            speeds = 0;
            readings = 0;
            undos = 0;
        }

        void addChild(int itsKind, int itsHeight, int itsCell, int itsSteps, int itsBed) {
            if (children >= CHILDREN) {
                return;
            }
            kind[children] = itsKind;
            height[children] = itsHeight;
            cell[children] = itsCell;
            steps[children] = itsSteps;
            bed[children] = itsBed;
            children++;
            undos = 0;
        }

        void addSpeed(int n) {
            if (speeds < SPEEDS) {
                speed[speeds] = n;
                speeds++;
            }
        }

        void addReading(int where, int when, int v) {
            if (readings < READINGS) {
                readCell[readings] = where;
                readMinute[readings] = when;
                readLimit[readings] = v;
                readings++;
            }
        }

        /** Keeps what a child's bed or cell was; the oldest gives way where eight are kept. */
        void keepForUndo(int child, boolean isBed, int was) {
            if (undos >= UNDOS) {
                System.arraycopy(undoChild, 1, undoChild, 0, UNDOS - 1);
                System.arraycopy(undoBed, 1, undoBed, 0, UNDOS - 1);
                System.arraycopy(undoWas, 1, undoWas, 0, UNDOS - 1);
                undos = UNDOS - 1;
            }
            undoChild[undos] = child;
            undoBed[undos] = isBed;
            undoWas[undos] = was;
            undos++;
        }

        void undoLast() {
            if (undos <= 0) {
                return;
            }
            undos--;
            int[] told = undoBed[undos] ? bed : cell;
            told[undoChild[undos]] = undoWas[undos];
        }

        void copyFrom(Road other) {
            sight = other.sight;
            law = other.law;
            children = other.children;
            System.arraycopy(other.kind, 0, kind, 0, CHILDREN);
            System.arraycopy(other.height, 0, height, 0, CHILDREN);
            System.arraycopy(other.cell, 0, cell, 0, CHILDREN);
            System.arraycopy(other.steps, 0, steps, 0, CHILDREN);
            System.arraycopy(other.bed, 0, bed, 0, CHILDREN);
            speeds = other.speeds;
            System.arraycopy(other.speed, 0, speed, 0, SPEEDS);
            readings = other.readings;
            System.arraycopy(other.readCell, 0, readCell, 0, READINGS);
            System.arraycopy(other.readMinute, 0, readMinute, 0, READINGS);
            System.arraycopy(other.readLimit, 0, readLimit, 0, READINGS);
            undos = other.undos;
            System.arraycopy(other.undoChild, 0, undoChild, 0, UNDOS);
            System.arraycopy(other.undoBed, 0, undoBed, 0, UNDOS);
            System.arraycopy(other.undoWas, 0, undoWas, 0, UNDOS);
        }

        /** The set of all children, a bit each. */
        int everyChild() {
            return (1 << children) - 1;
        }

        long digestOn(long start) {
            long h = start;
            for (int i = 0; i < children; i++) {
                h = 31 * h + kind[i];
                h = 31 * h + height[i];
                h = 31 * h + cell[i];
                h = 31 * h + steps[i];
                h = 31 * h + bed[i];
            }
            for (int i = 0; i < speeds; i++) {
                h = 31 * h + speed[i];
            }
            for (int i = 0; i < readings; i++) {
                h = 31 * h + readCell[i];
                h = 31 * h + readMinute[i];
                h = 31 * h + readLimit[i];
            }
            return h;
        }
    }

    /** A kind of child, told by where it is and how high it counts; the other kinds stand under it. */
    private static class Walker {
        int cellIn(int cell, int steps, int minute) {
            return Math.min(LAST_CELL, cell + steps * minute);
        }

        /** 0 where it counts no more. */
        int highIn(int height, int minute) {
            return height;
        }
    }

    private static class Held extends Walker {
        int highIn(int height, int minute) {
            return Math.min(TALLEST, super.highIn(height, minute) + 2);
        }
    }

    private static class Player extends Walker {
        int cellIn(int cell, int steps, int minute) {
            return minute % 2 == 0 ? cell : Math.min(LAST_CELL, cell + steps);
        }
    }

    private static final class Twin extends Held {
        int highIn(int height, int minute) {
            return Math.max(1, super.highIn(height, minute) / 2);
        }
    }

    private static final class Grows extends Walker {
        int highIn(int height, int minute) {
            return Math.min(TALLEST, super.highIn(height, minute) + minute / 15);
        }
    }

    private static final class Doll extends Player {
        int highIn(int height, int minute) {
            return minute < 20 ? super.highIn(height, minute) : 0;
        }
    }

    /** Where the children of a road are in one minute, how high they count, and the limits by that. */
    private static final class Limits {
        /** A rank is a distance, a height and a number in one, so that one comparison orders all. */
        private static final int HEIGHTS = 16;
        private static final int NUMBERS = 8;
        /** Behind every rank that a child can have. */
        private static final int NOBODY = 1 << 20;

        final Walker walker = new Walker();
        final Walker held = new Held();
        final Walker player = new Player();
        final Walker twin = new Twin();
        final Walker grows = new Grows();
        final Walker doll = new Doll();
        final int[] cells = new int[CHILDREN];
        /** 0 where a child is not out or counts no more. */
        final int[] highs = new int[CHILDREN];

        Walker kindOf(int number) {
            switch (number) {
                case 1:
                    return held;
                case 2:
                    return player;
                case 3:
                    return twin;
                case 4:
                    return grows;
                case DOLL_KIND:
                    return doll;
                default:
                    return walker;
            }
        }

        /** The minute that all that is asked next is about. */
        void see(Road road, int minute) {
            for (int i = 0; i < road.children; i++) {
                Walker kind = kindOf(road.kind[i]);
                cells[i] = kind.cellIn(road.cell[i], road.steps[i], minute);
                highs[i] = minute < road.bed[i] ? kind.highIn(road.height[i], minute) : 0;
            }
        }

        /** The limit in a cell, if only the children of the set were on the road at all. */
        int limitIn(Road road, int set, int cell) {
            if (road.law == 1) {
                return lowestIn(road, set, cell);
            }
            int first = nearestBehind(road, set, cell, -1);
            if (first == NOBODY) {
                return TALLEST;
            }
            if (road.law == 0) {
                return highByRank(first);
            }
            int second = nearestBehind(road, set, cell, first);
            if (second == NOBODY) {
                return highByRank(first);
            }
            return (highByRank(first) + highByRank(second)) / 2;
        }

        int nearestChild(Road road, int cell) {
            int first = nearestBehind(road, road.everyChild(), cell, -1);
            return first == NOBODY ? NONE : first % NUMBERS;
        }

        /** The set of the children who are out in one of the cells. */
        int outBetween(Road road, int firstCell, int lastCell) {
            int set = 0;
            for (int i = 0; i < road.children; i++) {
                if (highs[i] > 0 && cells[i] >= firstCell && cells[i] <= lastCell) {
                    set |= 1 << i;
                }
            }
            return set;
        }

        /** The least rank behind another one: by distance, then by height, then by number. */
        int nearestBehind(Road road, int set, int cell, int rank) {
            int best = NOBODY;
            for (int i = 0; i < road.children; i++) {
                if (isSeen(road, set, cell, i)) {
                    int its = (Math.abs(cells[i] - cell) * HEIGHTS + highs[i]) * NUMBERS + i;
                    if (its > rank && its < best) {
                        best = its;
                    }
                }
            }
            return best;
        }

        int lowestIn(Road road, int set, int cell) {
            int lowest = TALLEST;
            for (int i = 0; i < road.children; i++) {
                if (isSeen(road, set, cell, i)) {
                    lowest = Math.min(lowest, highs[i]);
                }
            }
            return lowest;
        }

        boolean isSeen(Road road, int set, int cell, int child) {
            return (set >> child & 1) != 0 && highs[child] > 0
                    && Math.abs(cells[child] - cell) <= road.sight;
        }

        static int highByRank(int rank) {
            return rank / NUMBERS % HEIGHTS;
        }
    }

    /** Drives on a road, and what is best by them. A minute that does not come is NEVER. */
    private static final class Drives {
        final Limits limits = new Limits();
        final int[] ends = new int[CARTERS_CHOICES];

        int cellOfDrive(Road road, int a, int m) {
            int cell = 0;
            for (int t = a; t < m; t++) {
                limits.see(road, t);
                cell = Math.min(LAST_CELL, cell + limits.limitIn(road, road.everyChild(), cell));
            }
            return cell;
        }

        /** When a drive from minute a is there, if only the children of the set are out. */
        int endOfDrive(Road road, int set, int a) {
            int cell = 0;
            for (int t = a; t < MINUTES; t++) {
                limits.see(road, t);
                cell += limits.limitIn(road, set, cell);
                if (cell >= LAST_CELL) {
                    return t + 1;
                }
            }
            return NEVER;
        }

        /**
         * When one can be there first, if only the children of the set are out. One may stand
         * and go slowly, so one can be in every cell up to the farthest; from cells further
         * back than the highest limit one comes no further than that.
         */
        int soonestEnd(Road road, int set, int a) {
            int farthest = 0;
            for (int t = a; t < MINUTES; t++) {
                limits.see(road, t);
                int next = farthest;
                for (int cell = Math.max(0, farthest - TALLEST); cell <= farthest; cell++) {
                    next = Math.max(next, cell + limits.limitIn(road, set, cell));
                }
                if (next >= LAST_CELL) {
                    return t + 1;
                }
                farthest = next;
            }
            return NEVER;
        }

        int bestStart(Road road, int a) {
            int best = NONE;
            int end = NEVER - 1;
            for (int t = a; t < MINUTES; t++) {
                int its = endOfDrive(road, road.everyChild(), t);
                if (its <= end) {
                    best = t;
                    end = its;
                }
            }
            return best;
        }

        /** By what is asked: the first speed fined (0), the fine (1), who is run past (2). */
        int driveBySpeeds(Road road, int a, int what) {
            int first = NONE;
            int fine = 0;
            int past = 0;
            int cell = 0;
            for (int i = 0; i < road.speeds && a + i < MINUTES; i++) {
                limits.see(road, a + i);
                int over = road.speed[i] - limits.limitIn(road, road.everyChild(), cell);
                if (over > 0) {
                    fine += over;
                    first = first == NONE ? i : first;
                }
                int next = Math.min(LAST_CELL, cell + road.speed[i]);
                if (next > cell) {
                    past |= limits.outBetween(road, cell, next);
                }
                cell = next;
            }
            if (what == 0) {
                return first;
            }
            return what == 1 ? fine : past;
        }

        /** The set of at most h children by which, in bed, one can be there soonest. */
        int bestToBed(Road road, int a, int h) {
            int every = road.everyChild();
            int best = 0;
            int end = soonestEnd(road, every, a);
            for (int sent = 1; sent <= every; sent++) {
                if (Integer.bitCount(sent) <= h) {
                    int its = soonestEnd(road, every & ~sent, a);
                    boolean fewer = Integer.bitCount(sent) < Integer.bitCount(best);
                    if (its < end || its == end && fewer) {
                        best = sent;
                        end = its;
                    }
                }
            }
            return best;
        }

        /** 100 times the child and the cell by which a drive is there soonest; changes no cell for good. */
        int bestMove(Road road, int a) {
            int best = NONE;
            int end = endOfDrive(road, road.everyChild(), a);
            for (int child = 0; child < road.children; child++) {
                int was = road.cell[child];
                for (int cell = 0; cell < CELLS; cell++) {
                    road.cell[child] = cell;
                    int its = endOfDrive(road, road.everyChild(), a);
                    if (its < end) {
                        best = 100 * child + cell;
                        end = its;
                    }
                }
                road.cell[child] = was;
            }
            return best;
        }

        /** How many pairs of starts rest (0), the first of them (1). */
        int restingPairs(Road road, int a, int what) {
            for (int i = 0; i < CARTERS_CHOICES; i++) {
                ends[i] = endOfDrive(road, road.everyChild(), a + i);
            }
            int pairs = 0;
            int first = NONE;
            for (int one = 0; one < CARTERS_CHOICES; one++) {
                for (int other = 0; other < CARTERS_CHOICES; other++) {
                    if (isBestAgainst(one, other) && isBestAgainst(other, one)) {
                        first = pairs == 0 ? 10 * one + other : first;
                        pairs++;
                    }
                }
            }
            return what == 0 ? pairs : first;
        }

        boolean isBestAgainst(int own, int other) {
            int gets = getsAgainst(own, other);
            for (int i = 0; i < CARTERS_CHOICES; i++) {
                if (getsAgainst(i, other) > gets) {
                    return false;
                }
            }
            return true;
        }

        int getsAgainst(int own, int other) {
            if (ends[own] == NEVER) {
                return 0;
            }
            boolean hindered = own > other && own - other <= CARTERS_NEAR;
            return CARTERS_PRIZE - ends[own] - (hindered ? CARTERS_DELAY : 0);
        }

        /** The minutes of n days together, in each of which some children are sick. */
        int minutesOfDays(Road road, int seed, int n, int w) {
            long x = seed;
            int minutes = 0;
            for (int day = 0; day < n; day++) {
                int well = 0;
                for (int child = 0; child < road.children; child++) {
                    x = (x * 1103515245L + 12345L) % 2147483648L;
                    if (x / 65536 % 100 >= w) {
                        well |= 1 << child;
                    }
                }
                minutes += endOfDrive(road, well, 0);
            }
            return minutes;
        }
    }

    /** What the readings of a road tell of who was out. Sets of sets are told as bits, a bit a set. */
    private static final class Sightings {
        final Limits limits = new Limits();
        final int[] alike = new int[TALLEST + 1];

        boolean isAsRead(Road road, int set) {
            for (int i = 0; i < road.readings; i++) {
                limits.see(road, road.readMinute[i]);
                if (limits.limitIn(road, set, road.readCell[i]) != road.readLimit[i]) {
                    return false;
                }
            }
            return true;
        }

        long fittingSets(Road road) {
            long fitting = 0;
            for (int set = 0; set <= road.everyChild(); set++) {
                if (isAsRead(road, set)) {
                    fitting |= 1L << set;
                }
            }
            return fitting;
        }

        int inAllSets(Road road, long fitting) {
            if (fitting == 0) {
                return NONE;
            }
            int inAll = road.everyChild();
            for (int set = 0; set <= road.everyChild(); set++) {
                if ((fitting >> set & 1) != 0) {
                    inAll &= set;
                }
            }
            return inAll;
        }

        int bestCell(Road road, long fitting, int minute) {
            if (fitting == 0) {
                return NONE;
            }
            limits.see(road, minute);
            int best = NONE;
            int fewest = Long.bitCount(fitting) + 1;
            for (int cell = 0; cell < CELLS; cell++) {
                int most = mostAlike(road, fitting, cell);
                if (most < fewest) {
                    best = cell;
                    fewest = most;
                }
            }
            return best;
        }

        /** How many of the fitting sets have like limits in a cell, at most. */
        int mostAlike(Road road, long fitting, int cell) {
            for (int v = 0; v <= TALLEST; v++) {
                alike[v] = 0;
            }
            int most = 0;
            for (int set = 0; set <= road.everyChild(); set++) {
                if ((fitting >> set & 1) != 0) {
                    int v = limits.limitIn(road, set, cell);
                    alike[v]++;
                    most = Math.max(most, alike[v]);
                }
            }
            return most;
        }

        /** Each child who, were it a doll, would make the readings so; changes no kind for good. */
        int possibleDolls(Road road) {
            int possible = 0;
            for (int child = 0; child < road.children; child++) {
                int was = road.kind[child];
                road.kind[child] = DOLL_KIND;
                if (isAsRead(road, road.everyChild())) {
                    possible |= 1 << child;
                }
                road.kind[child] = was;
            }
            return possible;
        }
    }

    /** The text that tells a road. Where reading fails, the place stands at the fault. */
    private static final class RoadText {
        final int[] bytes = new int[TEXT_BYTES];
        int length;
        int place;

        void append(int c) {
            if (length < TEXT_BYTES) {
                bytes[length] = c;
                length++;
            }
        }

        /** How many items were read; -10 less the fault, where the road is of no use. */
        int readInto(Road road) {
            place = 0;
            int items = 0;
            while (items <= CHILDREN && !isAtEnd()) {
                boolean good = items == 0 ? readRoadItem(road) : readChildItem(road);
                if (!good) {
                    return MINUS_TEN - place;
                }
                items++;
            }
            return items == 0 || !isAtEnd() ? MINUS_TEN - place : items;
        }

        boolean readRoadItem(Road road) {
            if (!readWord("road")) {
                return false;
            }
            int sight = readNumber(0, LAST_CELL);
            int law = sight < 0 ? NONE : readNumber(0, LAST_LAW);
            if (law < 0 || !readSemicolon()) {
                return false;
            }
            road.begin(sight, law);
            return true;
        }

        boolean readChildItem(Road road) {
            if (!readWord("child")) {
                return false;
            }
            int kind = readNumber(0, LAST_KIND);
            int height = kind < 0 ? NONE : readNumber(1, TALLEST);
            int cell = height < 0 ? NONE : readNumber(0, LAST_CELL);
            int steps = cell < 0 ? NONE : readNumber(0, MOST_STEPS);
            int bed = steps < 0 ? NONE : readNumber(0, MINUTES);
            if (bed < 0 || !readSemicolon()) {
                return false;
            }
            road.addChild(kind, height, cell, steps, bed);
            return true;
        }

        /** Skips blanks, so that the place is that of the next token's first byte. */
        boolean isAtEnd() {
            while (place < length && bytes[place] == ' ') {
                place++;
            }
            return place >= length;
        }

        boolean readWord(String word) {
            if (isAtEnd()) {
                return false;
            }
            int end = endOfRun('a', 'z');
            if (end - place != word.length()) {
                return false;
            }
            for (int i = 0; i < word.length(); i++) {
                if (bytes[place + i] != word.charAt(i)) {
                    return false;
                }
            }
            place = end;
            return true;
        }

        /** The number there, NONE if there is none of one or two figures, or not as told. */
        int readNumber(int least, int most) {
            if (isAtEnd()) {
                return NONE;
            }
            int end = endOfRun('0', '9');
            if (end == place || end > place + 2) {
                return NONE;
            }
            int number = 0;
            for (int i = place; i < end; i++) {
                number = 10 * number + bytes[i] - '0';
            }
            if (number < least || number > most) {
                return NONE;
            }
            place = end;
            return number;
        }

        boolean readSemicolon() {
            if (isAtEnd() || bytes[place] != ';') {
                return false;
            }
            place++;
            return true;
        }

        /** Where the bytes from the place on that are of a range end. */
        int endOfRun(int first, int last) {
            int end = place;
            while (end < length && bytes[end] >= first && bytes[end] <= last) {
                end++;
            }
            return end;
        }
    }
}
