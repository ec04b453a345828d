import java.util.ArrayList;
import java.util.Arrays;
import java.util.List;

/**
 * Every mixture of the last arguments that are allowed and the first that are not, for every method:
 * whether it throws, which exception comes first, and that it changes nothing.
 */
public final class RefusedCallsTest {
    private static final int MIN = Integer.MIN_VALUE;
    private static final int MAX = Integer.MAX_VALUE;
    private static final int MIXTURES_OF_AN_OBJECT = 140;

    private static final int[] SET = {-1, 0, 7, 8, MIN, MAX};
    private static final int[] FUNCTION = {-1, 0, 4, 5, MIN, MAX};
    private static final int[] POINT = {-1, 0, 50, 100, 101, MIN, MAX};
    private static final int[] ENDS = {-1, 0, 3, 4, MIN, MAX};
    private static final int[] GRAIN = {-1, 0, 200, 201, MIN, MAX};
    private static final int[] BY = {-101, -100, 100, 101, MIN, MAX};
    private static final int[] FAMILY = {-1, 0, 7, 255, 256, MIN, MAX};
    private static final int[] PLACE = {-1, 0, 1, 2, 3, 4, MIN, MAX};
    private static final int[] ANY = {MIN, -1, 0, MAX};
    private static final int[] YES_OR_NO = {0, 1};

    private static final Checks checks = new Checks();

    /** What a call throws by the document, "" if it is answered. It may ask an object that holds the same. */
    private interface Rule {
        String due(PuddingstoneLine like, int[] a);
    }

    private static final class Row {
        final String name;
        final boolean isQuestion;
        final Lines.Method method;
        final Rule rule;
        final int[][] candidates;

        Row(String name, boolean isQuestion, Lines.Method method, Rule rule, int[]... candidates) {
            this.name = name;
            this.isQuestion = isQuestion;
            this.method = method;
            this.rule = rule;
            this.candidates = candidates;
        }
    }

    private static final List<Row> rows = new ArrayList<>();

    private static void changing(String name, Lines.Method method, Rule rule, int[]... candidates) {
        rows.add(new Row(name, false, method, rule, candidates));
    }

    private static void asking(String name, Lines.Method method, Rule rule, int[]... candidates) {
        rows.add(new Row(name, true, method, rule, candidates));
    }

    private static int[] edges(int low, int high) {
        return new int[] {low - 1, low, high, high + 1, MIN, MAX};
    }

    private static boolean in(int number, int low, int high) {
        return low <= number && number <= high;
    }

    private static boolean areSets(int... numbers) {
        return Arrays.stream(numbers).allMatch(number -> in(number, 0, 7));
    }

    private static boolean areFunctions(int... numbers) {
        return Arrays.stream(numbers).allMatch(number -> in(number, 0, 4));
    }

    private static boolean isSpan(int a, int b, int ends) {
        return in(a, 0, 100) && in(b, 0, 100) && b >= a && in(ends, 0, 3);
    }

    // The exceptions of a method, in the order in which the document names them.
    private static String throwing(boolean isThere, boolean isRight) {
        if (!isThere) {
            return Checks.INDEX;
        }
        return isRight ? "" : Checks.ARGUMENT;
    }

    private static void rowsOfSets() {
        changing("span", (x, a) -> x.span(a[0], a[1], a[2], a[3], a[4] != 0),
            (x, a) -> throwing(areSets(a[0]), isSpan(a[1], a[2], a[3])), SET, POINT, POINT, ENDS, YES_OR_NO);
        changing("join", (x, a) -> x.join(a[0], a[1], a[2], a[3]),
            (x, a) -> throwing(areSets(a[0], a[1], a[2]), in(a[3], 0, 3)), SET, SET, SET, edges(0, 3));
        changing("change", (x, a) -> x.change(a[0], a[1]),
            (x, a) -> throwing(areSets(a[0]), in(a[1], 0, 7)), SET, edges(0, 7));
        changing("move", (x, a) -> x.move(a[0], a[1]),
            (x, a) -> throwing(areSets(a[0]), in(a[1], -100, 100)), SET, BY);
        changing("stretch", (x, a) -> x.stretch(a[0], a[1]),
            (x, a) -> throwing(areSets(a[0]), in(a[1], 2, 10)), SET, edges(2, 10));
        asking("ofSet", (x, a) -> x.ofSet(a[0], a[1]),
            (x, a) -> throwing(areSets(a[0]), in(a[1], 0, 5)), SET, edges(0, 5));
        asking("ofSpan", (x, a) -> x.ofSpan(a[0], a[1], a[2]),
            (x, a) -> throwing(areSets(a[0]) && in(a[1], 0, x.ofSet(a[0], 1) - 1), in(a[2], 0, 2)),
            SET, PLACE, edges(0, 2));
        asking("has", (x, a) -> x.has(a[0], a[1]),
            (x, a) -> throwing(areSets(a[0]) && in(a[1], 0, 200), true), SET, GRAIN);
        asking("far", (x, a) -> x.far(a[0], a[1]),
            (x, a) -> throwing(areSets(a[0]) && in(a[1], 0, 200), true), SET, GRAIN);
        asking("beside", (x, a) -> x.beside(a[0], a[1]), (x, a) -> throwing(areSets(a[0], a[1]), true), SET, SET);
    }

    private static void rowsOfFunctions() {
        changing("raise", (x, a) -> x.raise(a[0], a[1], a[2], a[3], a[4]),
            (x, a) -> throwing(areFunctions(a[0]), isSpan(a[1], a[2], a[3]) && in(a[4], -1000, 1000)),
            FUNCTION, POINT, POINT, ENDS, edges(-1000, 1000));
        changing("set", (x, a) -> x.set(a[0], a[1], a[2]),
            (x, a) -> throwing(areFunctions(a[0]) && areSets(a[1]), in(a[2], -10000, 10000)),
            FUNCTION, SET, edges(-10000, 10000));
        changing("mix", (x, a) -> x.mix(a[0], a[1], a[2], a[3]),
            (x, a) -> throwing(areFunctions(a[0], a[1], a[2]), in(a[3], 0, 4)),
            FUNCTION, FUNCTION, FUNCTION, edges(0, 4));
        changing("turn", (x, a) -> x.turn(a[0], a[1], a[2]),
            (x, a) -> throwing(areFunctions(a[0]), in(a[1], 0, 4) || in(a[1], 5, 6) && in(a[2], 0, 200)),
            FUNCTION, new int[] {-1, 0, 1, 2, 3, 4, 5, 6, 7, MIN, MAX}, GRAIN);
        changing("thick", (x, a) -> x.thick(a[0], a[1]),
            (x, a) -> throwing(areFunctions(a[0]), in(a[1], 0, 255)), FUNCTION, FAMILY);
        changing("where", (x, a) -> x.where(a[0], a[1], a[2], a[3]),
            (x, a) -> throwing(areSets(a[0]) && areFunctions(a[1]), true), SET, FUNCTION, ANY, ANY);
        asking("ofFunction", (x, a) -> x.ofFunction(a[0], a[1]),
            (x, a) -> throwing(areFunctions(a[0]), in(a[1], 0, 4)), FUNCTION, edges(0, 4));
        asking("value", (x, a) -> x.value(a[0], a[1]),
            (x, a) -> throwing(areFunctions(a[0]) && in(a[1], 0, 200), true), FUNCTION, GRAIN);
        asking("area", (x, a) -> x.area(a[0], a[1]),
            (x, a) -> throwing(areFunctions(a[0]) && areSets(a[1]), true), FUNCTION, SET);
        asking("mean", (x, a) -> x.mean(a[0], a[1]),
            (x, a) -> throwing(areFunctions(a[0]) && areSets(a[1]), true), FUNCTION, SET);
    }

    private static void rowsOfFamiliesAndWhatWouldBe() {
        asking("thicker", (x, a) -> x.thicker(a[0], a[1]), (x, a) -> throwing(true, in(a[0], 0, 255)), FAMILY, ANY);
        asking("cover", (x, a) -> x.cover(a[0], a[1]),
            (x, a) -> throwing(areSets(a[1]), in(a[0], 0, 255)), FAMILY, SET);
        // A place is looked at only if the family is one: a wrong family comes before it.
        asking("covers", (x, a) -> x.covers(a[0], a[1], a[2]),
            (x, a) -> throwing(areSets(a[1]) && (!in(a[0], 0, 255) || in(a[2], 0, x.cover(a[0], a[1]) - 1)),
                in(a[0], 0, 255)), FAMILY, SET, PLACE);
        asking("apart", (x, a) -> x.apart(a[0]), (x, a) -> throwing(true, in(a[0], 0, 255)), FAMILY);
        asking("pins", (x, a) -> x.pins(a[0]), (x, a) -> throwing(true, in(a[0], 0, 255)), FAMILY);
        asking("meetWith", (x, a) -> x.meetWith(a[0], a[1], a[2]),
            (x, a) -> throwing(areSets(a[0], a[2]), in(a[1], -100, 100)), SET, BY, SET);
        asking("clear", (x, a) -> x.clear(a[0], a[1]), (x, a) -> throwing(areSets(a[0], a[1]), true), SET, SET);
        asking("best", (x, a) -> x.best(a[0], a[1]),
            (x, a) -> throwing(areFunctions(a[0]), in(a[1], 1, 100)), FUNCTION, edges(1, 100));
        asking("saves", (x, a) -> x.saves(a[0], a[1], a[2]),
            (x, a) -> throwing(areSets(a[1], a[2]), in(a[0], 0, 255)), FAMILY, SET, SET);
        asking("digest", (x, a) -> x.digest(), (x, a) -> "");
    }

    private interface Maker {
        PuddingstoneLine make();
    }

    private static final Maker[] MAKERS = {PuddingstoneLine::new, Lines::full, Lines::mixed};
    private static final String[] MADE = {"new", "full", "mixed"};

    private static int mixturesOf(int[][] candidates) {
        int mixtures = 1;
        for (int[] row : candidates) {
            mixtures *= row.length;
        }
        return mixtures;
    }

    private static int[] mixture(int[][] candidates, int number) {
        int[] a = new int[candidates.length];
        int rest = number;
        for (int k = 0; k < a.length; k++) {
            a[k] = candidates[k][rest % candidates[k].length];
            rest /= candidates[k].length;
        }
        return a;
    }

    private static String named(Row row, int made, int[] a) {
        return MADE[made] + ": " + row.name + Arrays.toString(a);
    }

    private static String thrown(Object answer) {
        return answer instanceof String ? (String) answer : "";
    }

    private static void oneMixture(PuddingstoneLine line, PuddingstoneLine like, Row row, String name, int[] a) {
        String due = row.rule.due(like, a);
        long before = line.digest();
        checks.same(name, thrown(Checks.answer(() -> row.method.call(line, a))), due);
        if (row.isQuestion || !due.isEmpty()) {
            checks.same(name + " changed something", line.digest() != before, false);
        }
    }

    // One object for some mixtures, so that refused calls stand between others, but never for more than 512 calls.
    private static void everyMixture(Row row, int made) {
        int mixtures = mixturesOf(row.candidates);
        for (int first = 0; first < mixtures; first += MIXTURES_OF_AN_OBJECT) {
            PuddingstoneLine line = MAKERS[made].make();
            PuddingstoneLine like = MAKERS[made].make();
            int end = Math.min(mixtures, first + MIXTURES_OF_AN_OBJECT);
            for (int number = first; number < end; number++) {
                int[] a = mixture(row.candidates, number);
                oneMixture(line, like, row, named(row, made, a), a);
            }
        }
    }

    private static List<Object> factsOf(PuddingstoneLine line) {
        List<Object> answers = new ArrayList<>();
        answers.add(line.digest());
        for (int set = 0; set < 8; set++) {
            for (int what = 0; what <= 5; what++) {
                answers.add(line.ofSet(set, what));
            }
            answers.add(line.cover(255 ^ 1 << set, set));
            answers.add(line.saves(255 ^ 129 >> set, set, 7 - set));
            answers.add(line.apart(1 << set));
            answers.add(line.pins(255 >> set));
            answers.add(line.far(set, 77));
            answers.add(line.beside(set, 7 - set));
            answers.add(line.clear(set, (set + 1) % 8));
            answers.add(line.meetWith(set, 3, (set + 2) % 8));
            answers.add(line.thicker(255 >> set, 2));
            answers.add(line.mean(set % 5, set));
            answers.add(line.area(set % 5, set));
        }
        for (int function = 0; function < 5; function++) {
            for (int what = 0; what <= 4; what++) {
                answers.add(line.ofFunction(function, what));
            }
            answers.add(line.best(function, 1 + 20 * function));
        }
        return answers;
    }

    private static List<Object> spansOf(PuddingstoneLine line) {
        List<Object> answers = new ArrayList<>();
        for (int set = 0; set < 8; set++) {
            answers.add(Lines.spans(line, set));
            for (int k = 0; k < line.cover(255 ^ 1 << set, set); k++) {
                answers.add(line.covers(255 ^ 1 << set, set, k));
            }
        }
        return answers;
    }

    private static List<Object> grainsOf(PuddingstoneLine line, int set) {
        List<Object> answers = new ArrayList<>();
        for (int grain = 0; grain <= 200; grain++) {
            answers.add(line.has(set, grain));
            answers.add(line.has(set + 1, grain));
        }
        return answers;
    }

    private static List<Object> valuesOf(PuddingstoneLine line, int function) {
        List<Object> answers = new ArrayList<>();
        for (int grain = 0; grain <= 200; grain++) {
            answers.add(line.value(function, grain));
        }
        return answers;
    }

    private static final int PARTS = 11;

    // What an object answers, in parts, since it is used for 512 calls: each part has an object of its own.
    private static List<Object> answersOf(PuddingstoneLine line, int part) {
        if (part == 0) {
            return factsOf(line);
        }
        if (part == 1) {
            return spansOf(line);
        }
        return part < 6 ? grainsOf(line, 2 * (part - 2)) : valuesOf(line, part - 6);
    }

    private static List<List<Object>> allAnswers(int made) {
        List<List<Object>> answers = new ArrayList<>();
        for (int part = 0; part < PARTS; part++) {
            answers.add(answersOf(MAKERS[made].make(), part));
        }
        return answers;
    }

    // The refused calls with one argument other than in a call with the lowest, or the highest, that are allowed.
    private static List<int[]> nearlyRight(Row row) {
        List<int[]> found = new ArrayList<>();
        for (int side = 0; side < 2; side++) {
            int[] base = new int[row.candidates.length];
            for (int k = 0; k < base.length; k++) {
                base[k] = row.candidates[k][side == 0 ? 1 : Math.max(0, row.candidates[k].length - 4)];
            }
            for (int k = 0; k < base.length; k++) {
                for (int candidate : row.candidates[k]) {
                    int[] a = base.clone();
                    a[k] = candidate;
                    found.add(a);
                }
            }
        }
        found.add(mixture(row.candidates, 0));
        return found;
    }

    private static void answersAsBefore(Row row, int made, List<List<Object>> before) {
        PuddingstoneLine like = MAKERS[made].make();
        for (int[] a : nearlyRight(row)) {
            String due = row.rule.due(like, a);
            for (int part = 0; part < PARTS && !due.isEmpty(); part++) {
                PuddingstoneLine line = MAKERS[made].make();
                checks.same(named(row, made, a), thrown(Checks.answer(() -> row.method.call(line, a))), due);
                boolean isAsBefore = answersOf(line, part).equals(before.get(part));
                checks.same(named(row, made, a) + " left all answers as before, part " + part, isAsBefore, true);
            }
        }
    }

    public static void main(String[] args) {
        rowsOfSets();
        rowsOfFunctions();
        rowsOfFamiliesAndWhatWouldBe();
        checks.same("methods of the face", rows.size(), 30);
        for (int made = 0; made < MAKERS.length; made++) {
            List<List<Object>> before = allAnswers(made);
            for (Row row : rows) {
                everyMixture(row, made);
                answersAsBefore(row, made, before);
            }
        }
        checks.end("RefusedCallsTest");
    }
}
