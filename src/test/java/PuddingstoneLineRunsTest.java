/** Long runs of calls, right and wrong ones, on the class and on the reference at once. */
public final class PuddingstoneLineRunsTest {
    private static final int RUNS = 400;
    private static final int CALLS = 512;
    private static final int KINDS = 30;
    private static final int[] ODD_NUMBERS = {-2147483648, 2147483647, -1, 201, 256, 101, 5, 8, -101, 1001, -10001, 11};

    // A row of numbers of our own, so that every run is the same each time.
    private static long seed = 1;

    private static int next(int bound) {
        seed = seed * 6364136223846793005L + 1442695040888963407L;
        return (int) ((seed >>> 33) % bound);
    }

    private static int from(int low, int high) {
        if (next(60) == 0) {
            return ODD_NUMBERS[next(ODD_NUMBERS.length)];
        }
        if (next(25) == 0) {
            return next(2) == 0 ? low - 1 : high + 1;
        }
        if (next(12) == 0) {
            return next(2) == 0 ? low : high;
        }
        return low + next(high - low + 1);
    }

    private static int aSet(int used) {
        return from(0, used);
    }

    private static int[] arguments(int kind, int used) {
        int a = from(0, 100);
        int b = next(4) == 0 ? a : next(2) == 0 ? a + next(12) : from(0, 100);
        int low = next(2) == 0 ? Math.min(a, b) : a;
        int high = next(2) == 0 ? Math.max(a, b) : b;
        int small = next(2) == 0 ? from(-3, 6) : from(-1000, 1000);
        switch (kind) {
            case 0:
                return new int[] {aSet(used), low, high, from(0, 3), next(4)};
            case 1:
                return new int[] {aSet(used), aSet(used), aSet(used), from(0, 3)};
            case 2:
                return new int[] {aSet(used), next(3) == 0 ? from(0, 7) : from(1, 4)};
            case 3:
                return new int[] {aSet(used), next(2) == 0 ? from(-100, 100) : from(-9, 9)};
            case 4:
                return new int[] {aSet(used), from(2, 10)};
            case 5:
                return new int[] {aSet(used), from(0, 5)};
            case 6:
                return new int[] {aSet(used), from(0, 4), from(0, 2)};
            case 7:
            case 8:
                return new int[] {aSet(used), from(0, 200)};
            case 9:
            case 26:
                return new int[] {aSet(used), aSet(used)};
            case 10:
                return new int[] {from(0, 4), low, high, from(0, 3), small};
            case 11:
                return new int[] {from(0, 4), aSet(used), next(2) == 0 ? small : from(-10000, 10000)};
            case 12:
                return new int[] {from(0, 4), from(0, 4), from(0, 4), from(0, 4)};
            case 13:
                return new int[] {from(0, 4), from(0, 6), next(2) == 0 ? from(0, 200) : from(0, 4)};
            case 14:
                return new int[] {from(0, 4), from(0, 255)};
            case 15:
                return new int[] {aSet(used), from(0, 4), small, small + next(200)};
            case 16:
                return new int[] {from(0, 4), from(0, 4)};
            case 17:
                return new int[] {from(0, 4), from(0, 200)};
            case 18:
            case 19:
                return new int[] {from(0, 4), aSet(used)};
            case 20:
                return new int[] {from(0, 255), from(0, 8)};
            case 21:
                return new int[] {from(0, 255), aSet(used)};
            case 22:
                return new int[] {from(0, 255), aSet(used), from(0, 3)};
            case 23:
            case 24:
                return new int[] {from(0, 255)};
            case 25:
                return new int[] {aSet(used), from(-100, 100), aSet(used)};
            case 27:
                return new int[] {from(0, 4), from(1, 100)};
            case 28:
                return new int[] {from(0, 255), aSet(used), aSet(used)};
            default:
                return new int[0];
        }
    }

    private static final String[] NAMES = {"span", "join", "change", "move", "stretch", "ofSet", "ofSpan", "has",
        "far", "beside", "raise", "set", "mix", "turn", "thick", "where", "ofFunction", "value", "area", "mean",
        "thicker", "cover", "covers", "apart", "pins", "meetWith", "clear", "best", "saves", "digest"};

    private static Object callClass(PuddingstoneLine x, int kind, int[] a) {
        switch (kind) {
            case 0: return x.span(a[0], a[1], a[2], a[3], a[4] != 0);
            case 1: return x.join(a[0], a[1], a[2], a[3]);
            case 2: return x.change(a[0], a[1]);
            case 3: return x.move(a[0], a[1]);
            case 4: return x.stretch(a[0], a[1]);
            case 5: return x.ofSet(a[0], a[1]);
            case 6: return x.ofSpan(a[0], a[1], a[2]);
            case 7: return x.has(a[0], a[1]);
            case 8: return x.far(a[0], a[1]);
            case 9: return x.beside(a[0], a[1]);
            case 10: return x.raise(a[0], a[1], a[2], a[3], a[4]);
            case 11: return x.set(a[0], a[1], a[2]);
            case 12: return x.mix(a[0], a[1], a[2], a[3]);
            case 13: return x.turn(a[0], a[1], a[2]);
            case 14: return x.thick(a[0], a[1]);
            case 15: return x.where(a[0], a[1], a[2], a[3]);
            case 16: return x.ofFunction(a[0], a[1]);
            case 17: return x.value(a[0], a[1]);
            case 18: return x.area(a[0], a[1]);
            case 19: return x.mean(a[0], a[1]);
            case 20: return x.thicker(a[0], a[1]);
            case 21: return x.cover(a[0], a[1]);
            case 22: return x.covers(a[0], a[1], a[2]);
            case 23: return x.apart(a[0]);
            case 24: return x.pins(a[0]);
            case 25: return x.meetWith(a[0], a[1], a[2]);
            case 26: return x.clear(a[0], a[1]);
            case 27: return x.best(a[0], a[1]);
            case 28: return x.saves(a[0], a[1], a[2]);
            default: return x.digest();
        }
    }

    private static Object callReference(ReferenceLine x, int kind, int[] a) {
        switch (kind) {
            case 0: return x.span(a[0], a[1], a[2], a[3], a[4] != 0);
            case 1: return x.join(a[0], a[1], a[2], a[3]);
            case 2: return x.change(a[0], a[1]);
            case 3: return x.move(a[0], a[1]);
            case 4: return x.stretch(a[0], a[1]);
            case 5: return x.ofSet(a[0], a[1]);
            case 6: return x.ofSpan(a[0], a[1], a[2]);
            case 7: return x.has(a[0], a[1]);
            case 8: return x.far(a[0], a[1]);
            case 9: return x.beside(a[0], a[1]);
            case 10: return x.raise(a[0], a[1], a[2], a[3], a[4]);
            case 11: return x.set(a[0], a[1], a[2]);
            case 12: return x.mix(a[0], a[1], a[2], a[3]);
            case 13: return x.turn(a[0], a[1], a[2]);
            case 14: return x.thick(a[0], a[1]);
            case 15: return x.where(a[0], a[1], a[2], a[3]);
            case 16: return x.ofFunction(a[0], a[1]);
            case 17: return x.value(a[0], a[1]);
            case 18: return x.area(a[0], a[1]);
            case 19: return x.mean(a[0], a[1]);
            case 20: return x.thicker(a[0], a[1]);
            case 21: return x.cover(a[0], a[1]);
            case 22: return x.covers(a[0], a[1], a[2]);
            case 23: return x.apart(a[0]);
            case 24: return x.pins(a[0]);
            case 25: return x.meetWith(a[0], a[1], a[2]);
            case 26: return x.clear(a[0], a[1]);
            case 27: return x.best(a[0], a[1]);
            case 28: return x.saves(a[0], a[1], a[2]);
            default: return x.digest();
        }
    }

    // Two runs of three build more than they ask, so that what moving and joining loses comes back.
    private static int nextKind(int run) {
        if (run % 3 != 0 && next(2) == 0) {
            return next(3) == 0 ? 10 : 0;
        }
        return next(KINDS);
    }

    public static void main(String[] args) {
        Checks checks = new Checks();
        int[] answered = new int[KINDS];
        int[] refused = new int[KINDS];
        for (int run = 0; run < RUNS; run++) {
            PuddingstoneLine line = new PuddingstoneLine();
            ReferenceLine reference = new ReferenceLine();
            int used = run % 2 == 0 ? 7 : 2;
            for (int call = 1; call <= CALLS; call++) {
                int kind = call == CALLS ? KINDS - 1 : nextKind(run);
                int[] a = arguments(kind, used);
                Object got = Checks.answer(() -> callClass(line, kind, a));
                Object due = Checks.answer(() -> callReference(reference, kind, a));
                checks.same("run " + run + ", call " + call + ": " + NAMES[kind] + java.util.Arrays.toString(a), got, due);
                if (due instanceof String) {
                    refused[kind]++;
                } else {
                    answered[kind]++;
                }
            }
        }
        for (int kind = 0; kind < KINDS; kind++) {
            checks.same(NAMES[kind] + " was answered often", answered[kind] > 200, true);
            checks.same(NAMES[kind] + " was refused often", refused[kind] > 200, kind < KINDS - 1);
        }
        checks.end("PuddingstoneLineRunsTest");
    }
}
