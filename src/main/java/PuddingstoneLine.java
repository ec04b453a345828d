/** Sets of points on a line, and functions that go in steps on it: see ../shared/DOC.md. */
public final class PuddingstoneLine {
    private static final int NONE = -1;
    private static final int NO_ANSWER = 1000;
    private static final int END = 100;
    private static final int GRAINS = 2 * END + 1;
    private static final int SETS = 8;
    private static final int FUNCTIONS = 5;
    private static final int ALL_SETS = (1 << SETS) - 1;
    private static final int VALUE_LIMIT = 10000;
    private static final int RAISE_LIMIT = 1000;
    private static final int BOTH_ENDS = 3;

    private final GrainSet[] sets = new GrainSet[SETS];
    private final StepFunction[] functions = new StepFunction[FUNCTIONS];

    // Rows to work in, made once: a call makes no object, so a run of any calls stays small.
    private final GrainSet spareSet = new GrainSet();
    private final StepFunction spareFunction = new StepFunction();
    private final SpanRow spanRow = new SpanRow();
    private final int[] coverSets = new int[GRAINS];

    public PuddingstoneLine() {
        for (int k = 0; k < sets.length; k++) {
            sets[k] = new GrainSet();
        }
        for (int k = 0; k < functions.length; k++) {
            functions[k] = new StepFunction();
        }
    }

    // ---- sets

    public int span(int set, int a, int b, int ends, boolean isIn)
            throws IndexOutOfBoundsException, IllegalArgumentException {
        GrainSet target = setAt(set);
        checkSpan(a, b, ends);
        return target.fill(firstGrain(a, b, ends), lastGrain(a, b, ends), isIn);
    }

    public int join(int to, int one, int other, int how)
            throws IndexOutOfBoundsException, IllegalArgumentException {
        GrainSet target = setAt(to);
        GrainSet left = setAt(one);
        GrainSet right = setAt(other);
        checkChoice(how, 3);
        for (int grain = 0; grain < GRAINS; grain++) {
            target.write(grain, isJoined(left.holds(grain), right.holds(grain), how));
        }
        return target.count();
    }

    public int change(int set, int how) throws IndexOutOfBoundsException, IllegalArgumentException {
        GrainSet target = setAt(set);
        checkChoice(how, 7);
        changeSet(target, how);
        return target.count();
    }

    public int move(int set, int by) throws IndexOutOfBoundsException, IllegalArgumentException {
        GrainSet target = setAt(set);
        checkMove(by);
        spareSet.copyFrom(target);
        for (int grain = 0; grain < GRAINS; grain++) {
            target.write(grain, spareSet.holds(grain - 2 * by));
        }
        return target.count();
    }

    public int stretch(int set, int times) throws IndexOutOfBoundsException, IllegalArgumentException {
        GrainSet target = setAt(set);
        if (times < 2 || times > 10) {
            throw new IllegalArgumentException("times is not 2 to 10");
        }
        spareSet.copyFrom(target);
        target.fill(0, GRAINS - 1, false);
        for (int grain = 0; grain < GRAINS; grain++) {
            if (spareSet.holds(grain)) {
                putStretched(target, grain, times);
            }
        }
        return target.count();
    }

    public int ofSet(int set, int what) throws IndexOutOfBoundsException, IllegalArgumentException {
        GrainSet asked = setAt(set);
        checkChoice(what, 5);
        return factOfSet(asked, what);
    }

    public int ofSpan(int set, int span, int what) throws IndexOutOfBoundsException, IllegalArgumentException {
        spanRow.readRuns(setAt(set), true);
        if (span < 0 || span >= spanRow.size()) {
            throw new IndexOutOfBoundsException("there is no such SPAN");
        }
        checkChoice(what, 2);
        return spanRow.fact(span, what);
    }

    public boolean has(int set, int grain) throws IndexOutOfBoundsException {
        GrainSet asked = setAt(set);
        checkGrain(grain);
        return asked.holds(grain);
    }

    public int far(int set, int grain) throws IndexOutOfBoundsException {
        GrainSet asked = setAt(set);
        checkGrain(grain);
        for (int away = 0; away < GRAINS; away++) {
            if (asked.holds(grain - away) || asked.holds(grain + away)) {
                return away;
            }
        }
        return NONE;
    }

    public int beside(int one, int other) throws IndexOutOfBoundsException {
        GrainSet left = setAt(one);
        GrainSet right = setAt(other);
        boolean isLeftInside = left.isInside(right);
        boolean isRightInside = right.isInside(left);
        if (isLeftInside) {
            return isRightInside ? 0 : 1;
        }
        if (isRightInside) {
            return 2;
        }
        return canLie(left, 0, right) ? 4 : 3;
    }

    // ---- functions

    public int raise(int function, int a, int b, int ends, int number)
            throws IndexOutOfBoundsException, IllegalArgumentException {
        StepFunction target = functionAt(function);
        checkSpan(a, b, ends);
        if (number < -RAISE_LIMIT || number > RAISE_LIMIT) {
            throw new IllegalArgumentException("number is not -1000 to 1000");
        }
        int last = lastGrain(a, b, ends);
        for (int grain = firstGrain(a, b, ends); grain <= last; grain++) {
            target.write(grain, target.at(grain) + number);
        }
        return target.steps();
    }

    public int set(int function, int set, int number)
            throws IndexOutOfBoundsException, IllegalArgumentException {
        StepFunction target = functionAt(function);
        GrainSet over = setAt(set);
        if (number < -VALUE_LIMIT || number > VALUE_LIMIT) {
            throw new IllegalArgumentException("number is not -10000 to 10000");
        }
        for (int grain = 0; grain < GRAINS; grain++) {
            if (over.holds(grain)) {
                target.write(grain, number);
            }
        }
        return target.steps();
    }

    public int mix(int to, int one, int other, int how)
            throws IndexOutOfBoundsException, IllegalArgumentException {
        StepFunction target = functionAt(to);
        StepFunction left = functionAt(one);
        StepFunction right = functionAt(other);
        checkChoice(how, 4);
        for (int grain = 0; grain < GRAINS; grain++) {
            target.write(grain, mixed(left.at(grain), right.at(grain), how));
        }
        return target.steps();
    }

    public int turn(int function, int how, int n) throws IndexOutOfBoundsException, IllegalArgumentException {
        StepFunction target = functionAt(function);
        checkChoice(how, 6);
        if (how >= 5 && (n < 0 || n >= GRAINS)) {
            throw new IllegalArgumentException("n is not 0 to 200");
        }
        turnFunction(target, how, n);
        return target.steps();
    }

    public int thick(int function, int family) throws IndexOutOfBoundsException, IllegalArgumentException {
        StepFunction target = functionAt(function);
        checkFamily(family);
        for (int grain = 0; grain < GRAINS; grain++) {
            target.write(grain, thickness(family, grain));
        }
        return target.steps();
    }

    public int where(int set, int function, int low, int high) throws IndexOutOfBoundsException {
        GrainSet target = setAt(set);
        StepFunction asked = functionAt(function);
        for (int grain = 0; grain < GRAINS; grain++) {
            int number = asked.at(grain);
            target.write(grain, low <= number && number <= high);
        }
        return target.count();
    }

    public int ofFunction(int function, int what) throws IndexOutOfBoundsException, IllegalArgumentException {
        StepFunction asked = functionAt(function);
        checkChoice(what, 4);
        return factOfFunction(asked, what);
    }

    public int value(int function, int grain) throws IndexOutOfBoundsException {
        StepFunction asked = functionAt(function);
        checkGrain(grain);
        return asked.at(grain);
    }

    public int area(int function, int set) throws IndexOutOfBoundsException {
        StepFunction asked = functionAt(function);
        return areaOver(asked, setAt(set));
    }

    public double mean(int function, int set) throws IndexOutOfBoundsException {
        StepFunction asked = functionAt(function);
        GrainSet over = setAt(set);
        int length = over.length();
        if (length == 0) {
            return 0;
        }
        return (double) areaOver(asked, over) / length;
    }

    // ---- families

    public int thicker(int family, int n) throws IllegalArgumentException {
        checkFamily(family);
        return countThicker(family, n);
    }

    public int cover(int family, int set) throws IndexOutOfBoundsException, IllegalArgumentException {
        GrainSet wanted = setAt(set);
        checkFamily(family);
        return takeCover(family, wanted);
    }

    public int covers(int family, int set, int k) throws IndexOutOfBoundsException, IllegalArgumentException {
        GrainSet wanted = setAt(set);
        checkFamily(family);
        int size = takeCover(family, wanted);
        if (k < 0 || k >= size || k >= coverSets.length) {
            throw new IndexOutOfBoundsException("there is no such place in the COVER");
        }
        return coverSets[k];
    }

    public int apart(int family) throws IllegalArgumentException {
        checkFamily(family);
        return countPins(family);
    }

    public int pins(int family) throws IllegalArgumentException {
        checkFamily(family);
        return countPins(family);
    }

    // ---- what would be (nothing is changed)

    public int meetWith(int set, int by, int other) throws IndexOutOfBoundsException, IllegalArgumentException {
        GrainSet moved = setAt(set);
        GrainSet fixed = setAt(other);
        checkMove(by);
        int length = 0;
        for (int grain = 1; grain < GRAINS; grain += 2) {
            if (fixed.holds(grain) && moved.holds(grain - 2 * by)) {
                length++;
            }
        }
        return length;
    }

    public int clear(int set, int other) throws IndexOutOfBoundsException {
        GrainSet moved = setAt(set);
        GrainSet fixed = setAt(other);
        for (int by = 0; by <= END; by++) {
            if (canLie(moved, -by, fixed)) {
                return -by;
            }
            if (canLie(moved, by, fixed)) {
                return by;
            }
        }
        return NO_ANSWER;
    }

    public int best(int function, int n) throws IndexOutOfBoundsException, IllegalArgumentException {
        StepFunction asked = functionAt(function);
        if (n < 1 || n > END) {
            throw new IllegalArgumentException("n is not 1 to 100");
        }
        int best = 0;
        int greatest = areaBetween(asked, 0, n);
        for (int a = 1; a <= END - n; a++) {
            int area = areaBetween(asked, a, a + n);
            if (area > greatest) {
                best = a;
                greatest = area;
            }
        }
        return best;
    }

    public int saves(int family, int set, int added) throws IndexOutOfBoundsException, IllegalArgumentException {
        GrainSet wanted = setAt(set);
        checkSet(added);
        checkFamily(family);
        int with = takeCover(family | (1 << added), wanted);
        if (with == NONE) {
            return NONE;
        }
        int without = takeCover(family, wanted);
        return without == NONE ? NO_ANSWER : without - with;
    }

    public long digest() {
        long d = 965;
        for (int k = 0; k < SETS; k++) {
            d = digestOfSet(d, setAt(k));
        }
        for (int k = 0; k < FUNCTIONS; k++) {
            d = digestOfFunction(d, functionAt(k));
        }
        d = d * 31 + countThicker(ALL_SETS, 1);
        d = d * 31 + countThicker(ALL_SETS, 2);
        d = d * 31 + countPins(ALL_SETS);
        d = d * 31 + countPins(ALL_SETS);
        for (int k = 0; k < SETS; k++) {
            d = d * 31 + takeCover(ALL_SETS ^ (1 << k), setAt(k));
        }
        return d;
    }

    // ---- what is asked for, and whether there is such a thing

    private GrainSet setOrNull(int set) {
        return set >= 0 && set < sets.length ? sets[set] : null;
    }

    private GrainSet setAt(int set) {
        GrainSet found = setOrNull(set);
        if (found == null) {
            throw new IndexOutOfBoundsException("there is no such SET");
        }
        return found;
    }

    private StepFunction functionAt(int function) {
        StepFunction found = function >= 0 && function < functions.length ? functions[function] : null;
        if (found == null) {
            throw new IndexOutOfBoundsException("there is no such FUNCTION");
        }
        return found;
    }

    private static void checkSet(int set) {
        if (set < 0 || set >= SETS) {
            throw new IndexOutOfBoundsException("there is no such SET");
        }
    }

    private static void checkGrain(int grain) {
        if (grain < 0 || grain >= GRAINS) {
            throw new IndexOutOfBoundsException("there is no such GRAIN");
        }
    }

    private static void checkChoice(int choice, int last) {
        if (choice < 0 || choice > last) {
            throw new IllegalArgumentException("how, what or ends is none of those that there are");
        }
    }

    private static void checkSpan(int a, int b, int ends) {
        if (a < 0 || b > END || b < a) {
            throw new IllegalArgumentException("a or b is not 0 to 100, or b is below a");
        }
        checkChoice(ends, BOTH_ENDS);
    }

    private static void checkMove(int by) {
        if (by < -END || by > END) {
            throw new IllegalArgumentException("by is not -100 to 100");
        }
    }

    private static void checkFamily(int family) {
        if (family < 0 || family > ALL_SETS) {
            throw new IllegalArgumentException("family is not 0 to 255");
        }
    }

    // ---- how sets come to be

    private static int firstGrain(int a, int b, int ends) {
        return a == b || (ends & 1) != 0 ? 2 * a : 2 * a + 1;
    }

    private static int lastGrain(int a, int b, int ends) {
        return a == b || (ends & 2) != 0 ? 2 * b : 2 * b - 1;
    }

    private static boolean isPoint(int grain) {
        return (grain & 1) == 0;
    }

    private static boolean isJoined(boolean inOne, boolean inOther, int how) {
        switch (how) {
            case 0:
                return inOne || inOther;
            case 1:
                return inOne && inOther;
            case 2:
                return inOne && !inOther;
            default:
                return inOne != inOther;
        }
    }

    private void changeSet(GrainSet target, int how) {
        switch (how) {
            case 0:
                target.invert();
                break;
            case 1:
                target.dropEdgePoints();
                break;
            case 2:
                target.addEdgePoints();
                break;
            case 3:
                target.keepLonePoints();
                break;
            case 4:
                target.mirror();
                break;
            case 5:
                keepLongest(target);
                break;
            case 6:
                fillGaps(target);
                break;
            default:
                target.fill(0, GRAINS - 1, false);
        }
    }

    private void keepLongest(GrainSet target) {
        spanRow.readRuns(target, true);
        int kept = spanRow.longest();
        target.fill(0, GRAINS - 1, false);
        target.fill(spanRow.first(kept), spanRow.last(kept), true);
    }

    private void fillGaps(GrainSet target) {
        spanRow.readRuns(target, true);
        target.fill(spanRow.first(0), spanRow.last(spanRow.size() - 1), true);
    }

    private static void putStretched(GrainSet target, int grain, int times) {
        if (isPoint(grain)) {
            target.write(grain * times, true);
        } else {
            target.fill((grain - 1) * times + 1, (grain + 1) * times - 1, true);
        }
    }

    private int factOfSet(GrainSet asked, int what) {
        switch (what) {
            case 0:
                return asked.count();
            case 1:
                spanRow.readRuns(asked, true);
                return spanRow.size();
            case 2:
                return asked.length();
            case 3:
                spanRow.readRuns(asked, true);
                return spanRow.lonePoints();
            case 4:
                spanRow.readRuns(asked, false);
                return spanRow.size();
            default:
                spanRow.readRuns(asked, false);
                return spanRow.length(spanRow.longest());
        }
    }

    // Whether a SET, moved, stays on the LINE and has nothing in common with another one.
    private static boolean canLie(GrainSet moved, int by, GrainSet fixed) {
        for (int grain = 0; grain < GRAINS; grain++) {
            if (moved.holds(grain)) {
                int to = grain + 2 * by;
                if (to < 0 || to >= GRAINS || fixed.holds(to)) {
                    return false;
                }
            }
        }
        return true;
    }

    // ---- how functions come to be

    private static int mixed(int one, int other, int how) {
        switch (how) {
            case 0:
                return one + other;
            case 1:
                return Math.min(one, other);
            case 2:
                return Math.max(one, other);
            case 3:
                return one - other;
            default:
                return one * other / 100;
        }
    }

    private void turnFunction(StepFunction target, int how, int n) {
        spareFunction.copyFrom(target);
        switch (how) {
            case 0:
                target.negate();
                break;
            case 1:
                target.climbFromLeft();
                break;
            case 2:
                target.climbFromRight();
                break;
            case 3:
                target.addUp();
                break;
            case 4:
                target.mirrorOf(spareFunction);
                break;
            case 5:
                target.greatestNear(spareFunction, n);
                break;
            default:
                target.leastNear(spareFunction, n);
        }
    }

    private static int factOfFunction(StepFunction asked, int what) {
        switch (what) {
            case 0:
                return asked.steps();
            case 1:
                return asked.least(0, GRAINS - 1);
            case 2:
                return asked.greatest(0, GRAINS - 1);
            case 3:
                return asked.firstGreatest();
            default:
                return areaBetween(asked, 0, END);
        }
    }

    private static int areaOver(StepFunction asked, GrainSet over) {
        int area = 0;
        for (int grain = 1; grain < GRAINS; grain += 2) {
            if (over.holds(grain)) {
                area += asked.at(grain);
            }
        }
        return area;
    }

    private static int areaBetween(StepFunction asked, int a, int b) {
        int area = 0;
        for (int point = a; point < b; point++) {
            area += asked.at(2 * point + 1);
        }
        return area;
    }

    // ---- how families are counted

    private GrainSet memberOrNull(int family, int set) {
        return ((family >> set) & 1) == 1 ? setOrNull(set) : null;
    }

    private int thickness(int family, int grain) {
        int thickness = 0;
        for (int k = 0; k < SETS; k++) {
            GrainSet member = memberOrNull(family, k);
            if (member != null && member.holds(grain)) {
                thickness++;
            }
        }
        return thickness;
    }

    private int countThicker(int family, int n) {
        int count = 0;
        for (int grain = 0; grain < GRAINS; grain++) {
            if (thickness(family, grain) >= n) {
                count++;
            }
        }
        return count;
    }

    // How many SPANS the COVER takes, or NONE; the SETS that they are of come to stand in coverSets.
    private int takeCover(int family, GrainSet wanted) {
        int taken = 0;
        int reached = NONE;
        for (int grain = 0; grain < GRAINS; grain++) {
            if (grain > reached && wanted.holds(grain)) {
                int from = farthestFrom(family, grain);
                GrainSet source = setOrNull(from);
                if (source == null) {
                    return NONE;
                }
                reached = source.lastOfRun(grain);
                if (taken < coverSets.length) {
                    coverSets[taken] = from;
                }
                taken++;
            }
        }
        return taken;
    }

    // The SET of the family whose SPAN goes farthest from a GRAIN that it has; NONE if none has it.
    private int farthestFrom(int family, int grain) {
        int farthest = NONE;
        int reached = NONE;
        for (int k = 0; k < SETS; k++) {
            GrainSet member = memberOrNull(family, k);
            if (member != null && member.holds(grain) && member.lastOfRun(grain) > reached) {
                farthest = k;
                reached = member.lastOfRun(grain);
            }
        }
        return farthest;
    }

    // The PINS, from the left, each on the last GRAIN of the first SPAN to end that has none yet.
    // No two of those SPANS have a point in common, for the later one begins behind the earlier
    // one's PIN: so as many can be APART, and no more, for SPANS with one PIN are not APART.
    private int countPins(int family) {
        int pins = 0;
        int lastPin = NONE;
        for (int grain = 0; grain < GRAINS; grain++) {
            if (endsUnpinned(family, grain, lastPin)) {
                pins++;
                lastPin = grain;
            }
        }
        return pins;
    }

    private boolean endsUnpinned(int family, int grain, int lastPin) {
        for (int k = 0; k < SETS; k++) {
            GrainSet member = memberOrNull(family, k);
            if (member != null && member.holds(grain) && !member.holds(grain + 1)
                    && member.firstOfRun(grain) > lastPin) {
                return true;
            }
        }
        return false;
    }

    // ---- the checksum

    private long digestOfSet(long before, GrainSet set) {
        long d = before;
        for (int what = 0; what <= 5; what++) {
            d = d * 31 + factOfSet(set, what);
        }
        spanRow.readRuns(set, true);
        for (int k = 0; k < spanRow.size(); k++) {
            for (int what = 0; what <= 2; what++) {
                d = d * 31 + spanRow.fact(k, what);
            }
        }
        return d;
    }

    private static long digestOfFunction(long before, StepFunction function) {
        long d = before;
        for (int what = 0; what <= 4; what++) {
            d = d * 31 + factOfFunction(function, what);
        }
        for (int grain = 0; grain < GRAINS; grain++) {
            d = d * 31 + function.at(grain);
        }
        return d;
    }

    /** The GRAINS of a SET. Beyond the LINE it has none, so that neighbours can be asked for freely. */
    private static final class GrainSet {
        private final boolean[] grains = new boolean[GRAINS];

        boolean holds(int grain) {
            return grain >= 0 && grain < grains.length && grains[grain];
        }

        // What comes to be beyond the LINE is lost.
        void write(int grain, boolean isIn) {
            if (grain >= 0 && grain < grains.length) {
                grains[grain] = isIn;
            }
        }

        int fill(int first, int last, boolean isIn) {
            int changed = 0;
            for (int grain = Math.max(first, 0); grain <= last && grain < GRAINS; grain++) {
                if (holds(grain) != isIn) {
                    write(grain, isIn);
                    changed++;
                }
            }
            return changed;
        }

        void copyFrom(GrainSet other) {
            for (int grain = 0; grain < GRAINS; grain++) {
                write(grain, other.holds(grain));
            }
        }

        int count() {
            int count = 0;
            for (int grain = 0; grain < GRAINS; grain++) {
                if (holds(grain)) {
                    count++;
                }
            }
            return count;
        }

        // Each GRAIN that is no point is LONG by 1, so their SPANS need not be looked for.
        int length() {
            int length = 0;
            for (int grain = 1; grain < GRAINS; grain += 2) {
                if (holds(grain)) {
                    length++;
                }
            }
            return length;
        }

        boolean isInside(GrainSet other) {
            for (int grain = 0; grain < GRAINS; grain++) {
                if (holds(grain) && !other.holds(grain)) {
                    return false;
                }
            }
            return true;
        }

        int firstOfRun(int grain) {
            int first = grain;
            while (first > 0 && holds(first - 1)) {
                first--;
            }
            return first;
        }

        int lastOfRun(int grain) {
            int last = grain;
            while (last < GRAINS - 1 && holds(last + 1)) {
                last++;
            }
            return last;
        }

        void invert() {
            for (int grain = 0; grain < GRAINS; grain++) {
                write(grain, !holds(grain));
            }
        }

        // Points alone change here, and what is beside them never is a point: so the order is free.
        void dropEdgePoints() {
            for (int grain = 0; grain < GRAINS; grain += 2) {
                boolean isLeftIn = grain == 0 || holds(grain - 1);
                boolean isRightIn = grain == GRAINS - 1 || holds(grain + 1);
                if (!isLeftIn || !isRightIn) {
                    write(grain, false);
                }
            }
        }

        void addEdgePoints() {
            for (int grain = 0; grain < GRAINS; grain += 2) {
                if (holds(grain - 1) || holds(grain + 1)) {
                    write(grain, true);
                }
            }
        }

        // The other GRAINS go last: until then they tell which points are not alone.
        void keepLonePoints() {
            for (int grain = 0; grain < GRAINS; grain += 2) {
                if (holds(grain - 1) || holds(grain + 1)) {
                    write(grain, false);
                }
            }
            for (int grain = 1; grain < GRAINS; grain += 2) {
                write(grain, false);
            }
        }

        void mirror() {
            for (int left = 0; left < END; left++) {
                int right = GRAINS - 1 - left;
                boolean wasIn = holds(left);
                write(left, holds(right));
                write(right, wasIn);
            }
        }
    }

    /** The SPANS of a SET, or its GAPS, from left to right, as they were when they were read. */
    private static final class SpanRow {
        private final int[] firsts = new int[GRAINS];
        private final int[] lasts = new int[GRAINS];
        private int size = 0;

        void readRuns(GrainSet set, boolean isIn) {
            size = 0;
            for (int grain = 0; grain < GRAINS; grain++) {
                if (set.holds(grain) == isIn) {
                    if (grain == 0 || set.holds(grain - 1) != isIn) {
                        begin(grain);
                    }
                    extend(grain);
                }
            }
        }

        private void begin(int grain) {
            if (size < firsts.length) {
                firsts[size] = grain;
                size++;
            }
        }

        private void extend(int grain) {
            if (size > 0 && size <= lasts.length) {
                lasts[size - 1] = grain;
            }
        }

        int size() {
            return size;
        }

        // A SPAN that is not there has its first GRAIN behind its last one: it fills nothing.
        int first(int k) {
            return k >= 0 && k < size && k < firsts.length ? firsts[k] : 0;
        }

        int last(int k) {
            return k >= 0 && k < size && k < lasts.length ? lasts[k] : NONE;
        }

        int length(int k) {
            return fact(k, 1) - fact(k, 0);
        }

        int fact(int k, int what) {
            switch (what) {
                case 0:
                    return first(k) / 2;
                case 1:
                    return (last(k) + 1) / 2;
                default:
                    return (isPoint(first(k)) ? 1 : 0) + (isPoint(last(k)) ? 2 : 0);
            }
        }

        int lonePoints() {
            int count = 0;
            for (int k = 0; k < size; k++) {
                if (length(k) == 0) {
                    count++;
                }
            }
            return count;
        }

        // Of several the first one; without any 0, as of a SPAN that is not there.
        int longest() {
            int longest = 0;
            for (int k = 1; k < size; k++) {
                if (length(k) > length(longest)) {
                    longest = k;
                }
            }
            return longest;
        }
    }

    /** A FUNCTION; each VALUE that is written is kept between the limits. */
    private static final class StepFunction {
        private final int[] values = new int[GRAINS];

        int at(int grain) {
            return grain >= 0 && grain < values.length ? values[grain] : 0;
        }

        void write(int grain, int number) {
            if (grain >= 0 && grain < values.length) {
                values[grain] = Math.max(-VALUE_LIMIT, Math.min(VALUE_LIMIT, number));
            }
        }

        void copyFrom(StepFunction other) {
            for (int grain = 0; grain < GRAINS; grain++) {
                write(grain, other.at(grain));
            }
        }

        int steps() {
            int steps = 1;
            for (int grain = 1; grain < GRAINS; grain++) {
                if (at(grain) != at(grain - 1)) {
                    steps++;
                }
            }
            return steps;
        }

        int greatest(int first, int last) {
            int greatest = -VALUE_LIMIT;
            for (int grain = Math.max(first, 0); grain <= last && grain < GRAINS; grain++) {
                greatest = Math.max(greatest, at(grain));
            }
            return greatest;
        }

        int least(int first, int last) {
            int least = VALUE_LIMIT;
            for (int grain = Math.max(first, 0); grain <= last && grain < GRAINS; grain++) {
                least = Math.min(least, at(grain));
            }
            return least;
        }

        int firstGreatest() {
            int first = 0;
            for (int grain = 1; grain < GRAINS; grain++) {
                if (at(grain) > at(first)) {
                    first = grain;
                }
            }
            return first;
        }

        void negate() {
            for (int grain = 0; grain < GRAINS; grain++) {
                write(grain, -at(grain));
            }
        }

        void climbFromLeft() {
            for (int grain = 1; grain < GRAINS; grain++) {
                write(grain, Math.max(at(grain), at(grain - 1)));
            }
        }

        void climbFromRight() {
            for (int grain = GRAINS - 2; grain >= 0; grain--) {
                write(grain, Math.max(at(grain), at(grain + 1)));
            }
        }

        // The limits hold for what is written, not for the sum on its way.
        void addUp() {
            int sum = 0;
            for (int grain = 0; grain < GRAINS; grain++) {
                if (!isPoint(grain)) {
                    sum += at(grain);
                }
                write(grain, sum);
            }
        }

        void mirrorOf(StepFunction before) {
            for (int grain = 0; grain < GRAINS; grain++) {
                write(grain, before.at(GRAINS - 1 - grain));
            }
        }

        void greatestNear(StepFunction before, int n) {
            for (int grain = 0; grain < GRAINS; grain++) {
                write(grain, before.greatest(grain - n, grain + n));
            }
        }

        void leastNear(StepFunction before, int n) {
            for (int grain = 0; grain < GRAINS; grain++) {
                write(grain, before.least(grain - n, grain + n));
            }
        }
    }
}
