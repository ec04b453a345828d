import java.util.ArrayList;
import java.util.BitSet;
import java.util.List;

/** The document once more, by other means than the class: slow, and as near to its words as can be. */
final class ReferenceLine {
    private final BitSet[] sets = new BitSet[8];
    private final int[][] functions = new int[5][201];

    ReferenceLine() {
        for (int k = 0; k < 8; k++) {
            sets[k] = new BitSet();
        }
    }

    private static void index(boolean isThere) {
        if (!isThere) {
            throw new IndexOutOfBoundsException();
        }
    }

    private static void argument(boolean isRight) {
        if (!isRight) {
            throw new IllegalArgumentException();
        }
    }

    private static boolean in(int number, int low, int high) {
        return low <= number && number <= high;
    }

    private static void sets(int... numbers) {
        for (int number : numbers) {
            index(in(number, 0, 7));
        }
    }

    private static void functions(int... numbers) {
        for (int number : numbers) {
            index(in(number, 0, 4));
        }
    }

    // Doubles tell points here: the GRAIN 2 * v + 1 stands at v + 0.5.
    private static BitSet grainsBetween(int a, int b, int ends) {
        BitSet grains = new BitSet();
        for (int grain = 0; grain <= 200; grain++) {
            double point = grain / 2.0;
            boolean isInside = a < point && point < b;
            boolean isA = point == a && (ends % 2 == 1 || a == b);
            boolean isB = point == b && (ends >= 2 || a == b);
            grains.set(grain, isInside || isA || isB);
        }
        return grains;
    }

    private static BitSet inverse(BitSet set) {
        BitSet result = (BitSet) set.clone();
        result.flip(0, 201);
        return result;
    }

    private static List<int[]> spans(BitSet set) {
        List<int[]> spans = new ArrayList<>();
        for (int first = set.nextSetBit(0); first >= 0; first = set.nextSetBit(spans.get(spans.size() - 1)[1] + 1)) {
            spans.add(new int[] {first, set.nextClearBit(first) - 1});
        }
        return spans;
    }

    private static int begin(int[] span) {
        return (int) Math.floor(span[0] / 2.0);
    }

    private static int end(int[] span) {
        return (int) Math.ceil(span[1] / 2.0);
    }

    private static int longOf(BitSet set) {
        int sum = 0;
        for (int[] span : spans(set)) {
            sum += end(span) - begin(span);
        }
        return sum;
    }

    private static BitSet moved(BitSet set, int by) {
        BitSet result = new BitSet();
        for (int grain = 0; grain <= 200; grain++) {
            if (set.get(grain) && in(grain + 2 * by, 0, 200)) {
                result.set(grain + 2 * by);
            }
        }
        return result;
    }

    private static BitSet both(BitSet one, BitSet other) {
        BitSet result = (BitSet) one.clone();
        result.and(other);
        return result;
    }

    int span(int set, int a, int b, int ends, boolean isIn) {
        sets(set);
        argument(in(a, 0, 100) && in(b, 0, 100) && a <= b && in(ends, 0, 3));
        BitSet before = (BitSet) sets[set].clone();
        if (isIn) {
            sets[set].or(grainsBetween(a, b, ends));
        } else {
            sets[set].andNot(grainsBetween(a, b, ends));
        }
        before.xor(sets[set]);
        return before.cardinality();
    }

    int join(int to, int one, int other, int how) {
        sets(to, one, other);
        argument(in(how, 0, 3));
        BitSet result = (BitSet) sets[one].clone();
        if (how == 0) {
            result.or(sets[other]);
        } else if (how == 1) {
            result.and(sets[other]);
        } else if (how == 2) {
            result.andNot(sets[other]);
        } else {
            result.xor(sets[other]);
        }
        sets[to] = result;
        return result.cardinality();
    }

    int change(int set, int how) {
        sets(set);
        argument(in(how, 0, 7));
        sets[set] = changed(sets[set], how);
        return sets[set].cardinality();
    }

    private static BitSet changed(BitSet set, int how) {
        BitSet result = new BitSet();
        List<int[]> spans = spans(set);
        if (how == 0) {
            return inverse(set);
        } else if (how == 1) {
            // A point that is beside what is not in the SET is just the one that the rest gets when it is CLOSED.
            return inverse(changed(inverse(set), 2));
        } else if (how == 2) {
            result.or(set);
            for (int grain = 1; grain < 200; grain += 2) {
                if (set.get(grain)) {
                    result.set(grain - 1, grain + 2);
                }
            }
        } else if (how == 3) {
            for (int[] span : spans) {
                if (span[0] == span[1] && span[0] % 2 == 0) {
                    result.set(span[0]);
                }
            }
        } else if (how == 4) {
            for (int grain = 0; grain <= 200; grain++) {
                result.set(200 - grain, set.get(grain));
            }
        } else if (how == 5 && !spans.isEmpty()) {
            int[] kept = spans.get(0);
            for (int[] span : spans) {
                kept = end(span) - begin(span) > end(kept) - begin(kept) ? span : kept;
            }
            result.set(kept[0], kept[1] + 1);
        } else if (how == 6 && !spans.isEmpty()) {
            result.set(spans.get(0)[0], spans.get(spans.size() - 1)[1] + 1);
        }
        return result;
    }

    int move(int set, int by) {
        sets(set);
        argument(in(by, -100, 100));
        sets[set] = moved(sets[set], by);
        return sets[set].cardinality();
    }

    int stretch(int set, int times) {
        sets(set);
        argument(in(times, 2, 10));
        BitSet result = new BitSet();
        for (int grain = 0; grain <= 200; grain++) {
            double from = grain / 2.0 / times;
            boolean isWhole = grain % (2 * times) == 0;
            result.set(grain, sets[set].get(isWhole ? grain / times : 2 * (int) Math.floor(from) + 1));
        }
        sets[set] = result;
        return result.cardinality();
    }

    int ofSet(int set, int what) {
        sets(set);
        argument(in(what, 0, 5));
        int answer = 0;
        if (what == 0) {
            answer = sets[set].cardinality();
        } else if (what == 1) {
            answer = spans(sets[set]).size();
        } else if (what == 2) {
            answer = longOf(sets[set]);
        } else if (what == 3) {
            answer = changed(sets[set], 3).cardinality();
        } else if (what == 4) {
            answer = spans(inverse(sets[set])).size();
        } else {
            for (int[] gap : spans(inverse(sets[set]))) {
                answer = Math.max(answer, end(gap) - begin(gap));
            }
        }
        return answer;
    }

    int ofSpan(int set, int span, int what) {
        sets(set);
        List<int[]> spans = spans(sets[set]);
        index(in(span, 0, spans.size() - 1));
        argument(in(what, 0, 2));
        int[] found = spans.get(span);
        if (what == 2) {
            return (found[0] % 2 == 0 ? 1 : 0) + (found[1] % 2 == 0 ? 2 : 0);
        }
        return what == 0 ? begin(found) : end(found);
    }

    boolean has(int set, int grain) {
        sets(set);
        index(in(grain, 0, 200));
        return sets[set].get(grain);
    }

    int far(int set, int grain) {
        sets(set);
        index(in(grain, 0, 200));
        int nearest = -1;
        for (int other = 0; other <= 200; other++) {
            int away = Math.abs(other - grain);
            if (sets[set].get(other) && (nearest < 0 || away < nearest)) {
                nearest = away;
            }
        }
        return nearest;
    }

    int beside(int one, int other) {
        sets(one, other);
        BitSet common = both(sets[one], sets[other]);
        if (sets[one].equals(sets[other])) {
            return 0;
        }
        if (common.equals(sets[one])) {
            return 1;
        }
        if (common.equals(sets[other])) {
            return 2;
        }
        return common.isEmpty() ? 4 : 3;
    }

    private static int limited(long number) {
        return (int) Math.max(-10000, Math.min(10000, number));
    }

    private static int steps(int[] function) {
        int steps = 0;
        int grain = 0;
        while (grain <= 200) {
            int value = function[grain];
            while (grain <= 200 && function[grain] == value) {
                grain++;
            }
            steps++;
        }
        return steps;
    }

    private static int areaOf(int[] function, BitSet set) {
        int sum = 0;
        for (int point = 0; point < 100; point++) {
            sum += set.get(2 * point + 1) ? function[2 * point + 1] : 0;
        }
        return sum;
    }

    int raise(int function, int a, int b, int ends, int number) {
        functions(function);
        argument(in(a, 0, 100) && in(b, 0, 100) && a <= b && in(ends, 0, 3) && in(number, -1000, 1000));
        BitSet where = grainsBetween(a, b, ends);
        for (int grain = 0; grain <= 200; grain++) {
            functions[function][grain] = limited(functions[function][grain] + (where.get(grain) ? number : 0));
        }
        return steps(functions[function]);
    }

    int set(int function, int set, int number) {
        functions(function);
        sets(set);
        argument(in(number, -10000, 10000));
        for (int grain = 0; grain <= 200; grain++) {
            functions[function][grain] = sets[set].get(grain) ? number : functions[function][grain];
        }
        return steps(functions[function]);
    }

    int mix(int to, int one, int other, int how) {
        functions(to, one, other);
        argument(in(how, 0, 4));
        int[] result = new int[201];
        for (int grain = 0; grain <= 200; grain++) {
            long a = functions[one][grain];
            long b = functions[other][grain];
            long product = Math.abs(a * b) / 100 * Long.signum(a * b);
            long[] mixed = {a + b, a < b ? a : b, a > b ? a : b, a - b, product};
            result[grain] = limited(mixed[how]);
        }
        functions[to] = result;
        return steps(result);
    }

    int turn(int function, int how, int n) {
        functions(function);
        argument(in(how, 0, 6) && (how < 5 || in(n, 0, 200)));
        int[] before = functions[function];
        int[] result = new int[201];
        for (int grain = 0; grain <= 200; grain++) {
            result[grain] = turned(before, how, n, grain);
        }
        functions[function] = result;
        return steps(result);
    }

    private static int turned(int[] before, int how, int n, int grain) {
        int sum = 0;
        int greatest = -10000;
        int least = 10000;
        for (int other = 0; other <= 200; other++) {
            boolean isNear = Math.abs(other - grain) <= n;
            if (how == 1 && other <= grain || how == 2 && other >= grain || how == 5 && isNear) {
                greatest = Math.max(greatest, before[other]);
            }
            if (how == 6 && isNear) {
                least = Math.min(least, before[other]);
            }
            if (other <= grain && other % 2 == 1) {
                sum += before[other];
            }
        }
        int[] answers = {-before[grain], greatest, greatest, limited(sum), before[200 - grain], greatest, least};
        return answers[how];
    }

    private List<Integer> members(int family) {
        List<Integer> members = new ArrayList<>();
        for (int k = 0; k < 8; k++) {
            if (family / (1 << k) % 2 == 1) {
                members.add(k);
            }
        }
        return members;
    }

    private int thickness(int family, int grain) {
        int thickness = 0;
        for (int member : members(family)) {
            thickness += sets[member].get(grain) ? 1 : 0;
        }
        return thickness;
    }

    int thick(int function, int family) {
        functions(function);
        argument(in(family, 0, 255));
        for (int grain = 0; grain <= 200; grain++) {
            functions[function][grain] = thickness(family, grain);
        }
        return steps(functions[function]);
    }

    int where(int set, int function, int low, int high) {
        sets(set);
        functions(function);
        for (int grain = 0; grain <= 200; grain++) {
            sets[set].set(grain, in(functions[function][grain], low, high));
        }
        return sets[set].cardinality();
    }

    int ofFunction(int function, int what) {
        functions(function);
        argument(in(what, 0, 4));
        int[] values = functions[function];
        int least = values[0];
        int greatest = values[0];
        int first = 0;
        for (int grain = 0; grain <= 200; grain++) {
            least = Math.min(least, values[grain]);
            if (values[grain] > greatest) {
                greatest = values[grain];
                first = grain;
            }
        }
        return new int[] {steps(values), least, greatest, first, areaOf(values, grainsBetween(0, 100, 3))}[what];
    }

    int value(int function, int grain) {
        functions(function);
        index(in(grain, 0, 200));
        return functions[function][grain];
    }

    int area(int function, int set) {
        functions(function);
        sets(set);
        return areaOf(functions[function], sets[set]);
    }

    double mean(int function, int set) {
        int area = area(function, set);
        int length = longOf(sets[set]);
        return length == 0 ? 0.0 : area / (double) length;
    }

    int thicker(int family, int n) {
        argument(in(family, 0, 255));
        int count = 0;
        for (int grain = 0; grain <= 200; grain++) {
            count += thickness(family, grain) >= n ? 1 : 0;
        }
        return count;
    }

    // The SETS of the COVER's SPANS from left to right; null without one.
    private List<Integer> coverOf(int family, BitSet set) {
        List<Integer> answer = new ArrayList<>();
        BitSet left = (BitSet) set.clone();
        while (!left.isEmpty()) {
            int first = left.nextSetBit(0);
            int[] taken = null;
            int of = -1;
            for (int member : members(family)) {
                for (int[] span : spans(sets[member])) {
                    if (in(first, span[0], span[1]) && (taken == null || span[1] > taken[1])) {
                        taken = span;
                        of = member;
                    }
                }
            }
            if (taken == null) {
                return null;
            }
            left.clear(taken[0], taken[1] + 1);
            answer.add(of);
        }
        return answer;
    }

    private int coverSize(int family, BitSet set) {
        List<Integer> cover = coverOf(family, set);
        return cover == null ? -1 : cover.size();
    }

    int cover(int family, int set) {
        sets(set);
        argument(in(family, 0, 255));
        return coverSize(family, sets[set]);
    }

    int covers(int family, int set, int k) {
        sets(set);
        argument(in(family, 0, 255));
        List<Integer> cover = coverOf(family, sets[set]);
        index(cover != null && in(k, 0, cover.size() - 1));
        return cover.get(k);
    }

    private List<int[]> spansOf(int family) {
        List<int[]> spans = new ArrayList<>();
        for (int member : members(family)) {
            spans.addAll(spans(sets[member]));
        }
        spans.sort((one, other) -> Integer.compare(one[0], other[0]));
        return spans;
    }

    // The longest row of SPANS, each behind the one before it.
    int apart(int family) {
        argument(in(family, 0, 255));
        List<int[]> spans = spansOf(family);
        int[] rows = new int[spans.size()];
        int most = 0;
        for (int k = 0; k < rows.length; k++) {
            for (int ahead = 0; ahead < k; ahead++) {
                if (spans.get(ahead)[1] < spans.get(k)[0]) {
                    rows[k] = Math.max(rows[k], rows[ahead]);
                }
            }
            rows[k]++;
            most = Math.max(most, rows[k]);
        }
        return most;
    }

    // The fewest PINS whose last one is on a GRAIN, by that GRAIN + 1; 0 is for no PIN at all.
    int pins(int family) {
        argument(in(family, 0, 255));
        List<int[]> spans = spansOf(family);
        int[] fewest = new int[202];
        int answer = spans.isEmpty() ? 0 : 1000;
        for (int grain = 0; grain <= 200; grain++) {
            int needed = -1;
            boolean isEnough = true;
            for (int[] span : spans) {
                needed = span[1] < grain ? Math.max(needed, span[0]) : needed;
                isEnough = isEnough && span[0] <= grain;
            }
            fewest[grain + 1] = 1000;
            for (int last = needed; last < grain; last++) {
                fewest[grain + 1] = Math.min(fewest[grain + 1], fewest[last + 1] + 1);
            }
            answer = isEnough ? Math.min(answer, fewest[grain + 1]) : answer;
        }
        return answer;
    }

    int meetWith(int set, int by, int other) {
        sets(set, other);
        argument(in(by, -100, 100));
        return longOf(both(moved(sets[set], by), sets[other]));
    }

    int clear(int set, int other) {
        sets(set, other);
        int answer = 1000;
        for (int by = 100; by >= -100; by--) {
            BitSet result = moved(sets[set], by);
            boolean isWhole = result.cardinality() == sets[set].cardinality();
            if (isWhole && !result.intersects(sets[other]) && Math.abs(by) <= Math.abs(answer)) {
                answer = by;
            }
        }
        return answer;
    }

    int best(int function, int n) {
        functions(function);
        argument(in(n, 1, 100));
        int best = 0;
        for (int a = 0; a + n <= 100; a++) {
            int area = areaOf(functions[function], grainsBetween(a, a + n, 3));
            if (area > areaOf(functions[function], grainsBetween(best, best + n, 3))) {
                best = a;
            }
        }
        return best;
    }

    int saves(int family, int set, int added) {
        sets(set, added);
        argument(in(family, 0, 255));
        boolean isMember = members(family).contains(added);
        int with = coverSize(isMember ? family : family + (1 << added), sets[set]);
        int without = coverSize(family, sets[set]);
        if (with < 0) {
            return -1;
        }
        return without < 0 ? 1000 : without - with;
    }

    long digest() {
        List<Integer> row = new ArrayList<>();
        for (int k = 0; k < 8; k++) {
            for (int what = 0; what <= 5; what++) {
                row.add(ofSet(k, what));
            }
            for (int span = 0; span < spans(sets[k]).size(); span++) {
                for (int what = 0; what <= 2; what++) {
                    row.add(ofSpan(k, span, what));
                }
            }
        }
        for (int k = 0; k < 5; k++) {
            for (int what = 0; what <= 4; what++) {
                row.add(ofFunction(k, what));
            }
            for (int value : functions[k]) {
                row.add(value);
            }
        }
        row.add(thicker(255, 1));
        row.add(thicker(255, 2));
        row.add(apart(255));
        row.add(pins(255));
        for (int k = 0; k < 8; k++) {
            row.add(cover(255 - (1 << k), k));
        }
        long d = 965;
        for (int number : row) {
            d = d * 31 + number;
        }
        return d;
    }
}
