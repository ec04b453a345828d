/**
 * The sentences of the document that name an edge, one after the other, each with answers worked out by hand
 * at that edge: the last numbers that are allowed, SETS and FUNCTIONS with nothing in them and full ones, the
 * ends of the LINE. Which calls are refused, RefusedCallsTest asks.
 */
public final class EdgeSentencesTest {
    private static final int MIN = Integer.MIN_VALUE;
    private static final int MAX = Integer.MAX_VALUE;

    private static final Checks checks = new Checks();
    private static String said = "";
    private static int asked = 0;

    // What is asked from here on is what these words of the document say.
    private static void sentence(String words) {
        said = words;
        asked = 0;
    }

    private static void same(Object got, Object due) {
        asked++;
        checks.same("\"" + said + "\", answer " + asked, got, due);
    }

    private static void spans(PuddingstoneLine line, int set, String due) {
        same(Lines.spans(line, set), due);
    }

    private static void values(PuddingstoneLine line, int function, int first, int last, String due) {
        same(Lines.values(line, function, first, last), due);
    }

    private static PuddingstoneLine with(String... spans) {
        return Lines.with(spans);
    }

    private static PuddingstoneLine empty() {
        return new PuddingstoneLine();
    }

    // SET 0 has every point and nothing between them: 101 SPANS; SET 1 has what is between: 100 SPANS.
    private static PuddingstoneLine dotted() {
        PuddingstoneLine line = empty();
        for (int v = 0; v <= 100; v++) {
            line.span(0, v, v, 3, true);
        }
        line.join(1, 0, 0, 0);
        line.change(1, 0);
        return line;
    }

    // A FUNCTION with one VALUE all along the LINE.
    private static PuddingstoneLine level(int function, int number) {
        PuddingstoneLine line = with("", "", "", "", "", "", "", "[0,100]");
        line.set(function, 7, number);
        return line;
    }

    // ---- what it is

    private static void objects() {
        sentence("An object is used for at most 512 calls after it has been made");
        PuddingstoneLine flipped = empty();
        for (int call = 1; call <= 511; call++) {
            flipped.change(0, 0);
        }
        same(flipped.ofSet(0, 0), 201);
        PuddingstoneLine summed = Lines.mixed();
        long digest = summed.digest();
        for (int call = 1; call < 400; call++) {
            summed.digest();
        }
        same(summed.digest(), digest);
        PuddingstoneLine refused = empty();
        for (int call = 1; call <= 511; call++) {
            Checks.answer(() -> refused.span(8, 0, 100, 3, true));
        }
        same(refused.span(7, 0, 100, 3, true), 201);

        sentence("Creates a LINE with SETS without GRAINS, FUNCTIONS of 0.");
        Lines.full();
        for (int set = 0; set < 8; set++) {
            spans(empty(), set, "");
            same(empty().ofSet(set, 0), 0);
        }
        for (int function = 0; function < 5; function++) {
            same(Lines.values(empty(), function, 0, 200), "0" + " 0".repeat(200));
        }
    }

    // ---- terms

    private static void theLine() {
        sentence("The LINE are all points from 0 to 100, also between whole numbers.");
        same(empty().span(0, 0, 100, 3, true), 201);
        same(empty().span(0, 0, 100, 0, true), 199);
        sentence("Its GRAINS are numbered from 0 to 200");
        same(with("[0,0]").has(0, 0), true);
        same(with("[0,0]").has(0, 1), false);
        same(with("[100,100]").has(0, 200), true);
        same(with("[100,100]").has(0, 199), false);
        sentence("the GRAIN 2 * v is the point v");
        for (int v = 0; v <= 100; v++) {
            PuddingstoneLine line = empty();
            same(line.span(0, v, v, 0, true), 1);
            same(line.has(0, 2 * v), true);
        }
        sentence("the GRAIN 2 * v + 1 are all points between v and v + 1 (without both)");
        for (int v = 0; v < 100; v++) {
            PuddingstoneLine line = empty();
            same(line.span(0, v, v + 1, 0, true), 1);
            same(line.has(0, 2 * v + 1), true);
        }
        sentence("There are 8 SETS, numbered from 0");
        PuddingstoneLine sets = with("[0,0]", "[0,1]", "[0,2]", "[0,3]", "[0,4]", "[0,5]", "[0,6]", "[0,7]");
        for (int set = 0; set < 8; set++) {
            same(sets.ofSet(set, 2), set);
        }
        sentence("There are 5 FUNCTIONS, numbered from 0, each with a VALUE on each GRAIN");
        PuddingstoneLine functions = empty();
        for (int function = 0; function < 5; function++) {
            functions.raise(function, 0, 100, 3, function + 1);
        }
        for (int function = 0; function < 5; function++) {
            same(functions.value(function, 0), function + 1);
            same(functions.value(function, 200), function + 1);
        }
    }

    private static void spansAndGaps() {
        sentence("with or without each of its ends");
        String[] due = {"(0,100)", "[0,100)", "(0,100]", "[0,100]"};
        int[] counts = {199, 200, 200, 201};
        for (int ends = 0; ends <= 3; ends++) {
            PuddingstoneLine line = empty();
            same(line.span(0, 0, 100, ends, true), counts[ends]);
            spans(line, 0, due[ends]);
        }
        sentence("with a as b it is with both ends (the point alone)");
        for (int ends = 0; ends <= 3; ends++) {
            for (int v = 0; v <= 100; v += 50) {
                PuddingstoneLine line = empty();
                same(line.span(0, v, v, ends, true), 1);
                spans(line, 0, "[" + v + "," + v + "]");
            }
        }
        sentence("its GRAINS that come one behind the other without one in between that it has not, as many as there are");
        spans(with("[0,5) [5,10]"), 0, "[0,10]");
        spans(with("[0,5] (5,10]"), 0, "[0,10]");
        spans(with("[0,5) (5,10]"), 0, "[0,5) (5,10]");
        spans(with("[0,5] [6,10]"), 0, "[0,5] [6,10]");
        spans(with("[0,0] (0,1) (99,100) [100,100]"), 0, "[0,1) (99,100]");
        same(dotted().ofSet(0, 1), 101);
        same(dotted().ofSet(1, 1), 100);
        sentence("they are numbered from 0, from left to right");
        spans(with("[100,100] (50,60) [0,0]"), 0, "[0,0] (50,60) [100,100]");
        same(dotted().ofSpan(0, 0, 0), 0);
        same(dotted().ofSpan(0, 100, 0), 100);
        same(dotted().ofSpan(1, 99, 0), 99);
        sentence("Its GAPS are the SPANS of all GRAINS that it has not.");
        same(empty().ofSet(0, 4), 1);
        same(Lines.full().ofSet(0, 4), 0);
        same(dotted().ofSet(0, 4), 100);
        same(dotted().ofSet(1, 4), 101);
        same(with("(0,100)").ofSet(0, 4), 2);
        same(with("[0,50) (50,100]").ofSet(0, 4), 1);
        sentence("A SPAN is LONG by where it ends less where it begins (with its ends or without; a point alone by 0).");
        same(with("(0,100)").ofSet(0, 2), 100);
        same(with("[0,100]").ofSet(0, 2), 100);
        same(with("(99,100)").ofSet(0, 2), 1);
        same(with("[0,0]").ofSet(0, 2), 0);
        sentence("A SET is LONG by the sum of its SPANS.");
        same(empty().ofSet(0, 2), 0);
        same(dotted().ofSet(0, 2), 0);
        same(dotted().ofSet(1, 2), 100);
        same(with("[0,10) [20,20] (97,100]").ofSet(0, 2), 13);
    }

    private static void changed(String before, int how, int count, String after) {
        PuddingstoneLine line = with(before);
        same(line.change(0, how), count);
        spans(line, 0, after);
    }

    private static void openedAndClosed() {
        sentence("To be OPENED is to have no GRAIN any more that is a point");
        changed("[10,20]", 1, 19, "(10,20)");
        changed("[10,10]", 1, 0, "");
        changed("(10,11)", 1, 1, "(10,11)");
        changed("", 1, 0, "");
        same(dotted().change(0, 1), 0);
        same(dotted().change(1, 1), 100);
        sentence("(on one side, or both; 0 and 100 have one side alone)");
        changed("[0,10]", 1, 20, "[0,10)");
        changed("[90,100]", 1, 20, "(90,100]");
        changed("[0,100]", 1, 201, "[0,100]");
        changed("[0,1) (99,100]", 1, 4, "[0,1) (99,100]");
        changed("[0,0] [100,100]", 1, 0, "");
        changed("[9,10) (10,11]", 1, 2, "(9,10) (10,11)");
        sentence("To be CLOSED is to have each point, too, beside which a GRAIN is in it.");
        changed("(10,20)", 2, 21, "[10,20]");
        changed("(0,1)", 2, 3, "[0,1]");
        changed("(99,100)", 2, 3, "[99,100]");
        changed("(0,100)", 2, 201, "[0,100]");
        changed("(10,11) (12,13)", 2, 6, "[10,11] [12,13]");
        changed("(10,11) (11,12)", 2, 5, "[10,12]");
        changed("[0,0] [2,2]", 2, 2, "[0,0] [2,2]");
        changed("", 2, 0, "");
        same(dotted().change(0, 2), 101);
        same(dotted().change(1, 2), 201);
    }

    private static void limitsOfValues() {
        sentence("of -10000 to 10000; what would be above is 10000, below -10000");
        PuddingstoneLine line = level(0, 9999);
        line.raise(0, 0, 100, 3, 1);
        same(line.value(0, 0), 10000);
        line.raise(0, 0, 100, 3, 1);
        same(line.value(0, 200), 10000);
        line.raise(0, 0, 100, 3, -1);
        same(line.value(0, 100), 9999);
        line.raise(0, 0, 100, 3, 1000);
        same(line.value(0, 101), 10000);
        line.set(0, 7, -9999);
        line.raise(0, 0, 100, 3, -1);
        same(line.value(0, 0), -10000);
        line.raise(0, 0, 100, 3, -1);
        same(line.value(0, 200), -10000);
        line.raise(0, 0, 100, 3, 1);
        same(line.value(0, 100), -9999);
        line.raise(0, 0, 100, 3, -1000);
        same(line.value(0, 101), -10000);
        int[][] mixed = {{0, 5000, 5000, 10000}, {0, 5000, 5001, 10000}, {0, -5000, -5000, -10000},
            {0, -5001, -5000, -10000}, {0, 10000, 10000, 10000}, {0, -10000, -10000, -10000},
            {0, 5000, 4999, 9999}, {0, -5000, -4999, -9999},
            {3, 10000, 0, 10000}, {3, 10000, -1, 10000}, {3, 10000, -10000, 10000}, {3, 9999, 0, 9999},
            {3, -10000, 0, -10000}, {3, -10000, 1, -10000}, {3, -10000, 10000, -10000}, {3, -9998, 1, -9999},
            {4, 1000, 1000, 10000}, {4, 1001, 1000, 10000}, {4, 10000, 10000, 10000}, {4, 999, 1001, 9999},
            {4, -1000, 1000, -10000}, {4, -1001, 1000, -10000}, {4, 10000, -10000, -10000}, {4, -999, 1001, -9999},
            {4, -10000, -10000, 10000}};
        for (int[] m : mixed) {
            PuddingstoneLine two = level(0, m[1]);
            two.set(1, 7, m[2]);
            same(two.mix(2, 0, 1, m[0]), 1);
            same(two.value(2, 0), m[3]);
            same(two.value(2, 200), m[3]);
        }
        sentence("GRAINS that come one behind the other with the same VALUE, as many as there are");
        same(empty().ofFunction(0, 0), 1);
        same(level(0, 10000).ofFunction(0, 0), 1);
        same(dotted().set(0, 0, 1), 201);
        same(dotted().set(0, 1, 1), 201);
        same(with("[0,0]").set(0, 0, 1), 2);
        same(with("[100,100]").set(0, 0, 1), 2);
        same(with("[0,0] [100,100]").set(0, 0, 1), 3);
        sentence("The AREA of a FUNCTION over a SET is the sum of its VALUES on the GRAINS of it that are no points.");
        PuddingstoneLine dots = dotted();
        dots.raise(0, 0, 100, 3, 7);
        same(dots.area(0, 0), 0);
        same(dots.area(0, 1), 700);
        same(dots.area(0, 2), 0);
        same(level(0, 10000).area(0, 7), 1000000);
        same(level(0, -10000).area(0, 7), -1000000);
    }

    private static void coverAndApart() {
        sentence("How THICK a family is on a GRAIN is in how many of its SETS that is.");
        same(Lines.full().thicker(255, 8), 201);
        same(Lines.full().thicker(255, 9), 0);
        same(Lines.full().thicker(127, 8), 0);
        same(Lines.full().thicker(128, 1), 201);
        same(Lines.full().thicker(1, 2), 0);
        same(Lines.full().thicker(0, 1), 0);
        sentence("as long as a GRAIN of the SET is in none that was taken");
        same(empty().cover(0, 0), 0);
        same(empty().cover(255, 0), 0);
        same(with("[0,0] [100,100]", "[0,100]").cover(2, 0), 1);
        same(with("[0,0] [100,100]", "[0,100)", "(0,100]").cover(6, 0), 2);
        sentence("of all SPANS that have it, the one whose last GRAIN is farthest to the right");
        same(with("[0,20]", "[0,20)", "[0,20]").covers(6, 0, 0), 2);
        same(with("[0,20)", "[0,20)", "[0,20]").covers(6, 0, 0), 2);
        same(with("[0,0]", "[0,0]", "[0,1)", "[0,1]").covers(14, 0, 0), 3);
        same(with("[99,100]", "[99,100)", "[99,100]").covers(6, 0, 0), 2);
        same(with("[10,20]", "[10,15]", "(10,100]", "[0,10] [11,100]").cover(14, 0), 2);
        same(with("[10,20]", "[10,15]", "(10,100]", "[0,10] [11,100]").covers(14, 0, 0), 1);
        sentence("of several that of the SET with the smallest number");
        PuddingstoneLine full = Lines.full();
        for (int set = 0; set < 8; set++) {
            same(full.covers(255, 7, 0), 0);
            same(full.covers(255 - (1 << set), 7, 0), set == 0 ? 1 : 0);
            same(full.covers(1 << set, 0, 0), set);
        }
        same(with("[5,9]", "", "[0,10]", "[5,10]", "[4,10)").covers(28, 0, 0), 2);
        sentence("if there is none, there is no COVER");
        same(with("[0,100]").cover(0, 0), -1);
        same(with("[0,0]", "(0,100]").cover(2, 0), -1);
        same(with("[100,100]", "[0,100)").cover(2, 0), -1);
        same(with("[49,51]", "[0,50) (50,100]").cover(2, 0), -1);
        same(with("[49,50) (50,51]", "[0,50) (50,100]").cover(2, 0), 2);
        sentence("SPANS are APART, if no two of them have a point in common.");
        same(with("[0,50]", "[50,100]").apart(3), 1);
        same(with("[0,50)", "[50,100]").apart(3), 2);
        same(with("[0,50]", "(50,100]").apart(3), 2);
        same(with("[0,50)", "(50,100]").apart(3), 2);
        same(with("(10,12)", "(11,13)").apart(3), 1);
        same(with("[0,0]", "[0,0]").apart(3), 1);
        sentence("A PIN is a point (it may be between whole numbers)");
        same(with("(10,11)").pins(1), 1);
        same(with("(10,12)", "(11,13)").pins(3), 1);
        same(with("(99,100)", "(99,100]", "[98,100)", "[0,100]").pins(15), 1);
        same(with("(0,1)", "[0,1)", "(0,2]").pins(7), 1);
        sentence("the PINS of a family are the fewest with which each of its SPANS has one");
        same(with("[0,50]", "[50,100]").pins(3), 1);
        same(with("[0,50)", "[50,100]").pins(3), 2);
        same(with("[0,0]", "[100,100]", "[0,100]").pins(7), 2);
        same(with("[0,0]", "[100,100]", "(0,100)").pins(7), 3);
        same(with("[0,0]", "[0,1]").pins(3), 1);
        same(with("[100,100]", "[99,100]").pins(3), 1);
        sentence("The SPANS of a family are those of its SETS, all together.");
        PuddingstoneLine line = with("[0,0]", "[2,2]", "[4,4]", "[6,6]", "[8,8]", "[10,10]", "[12,12]", "[14,14]");
        for (int set = 0; set < 8; set++) {
            same(line.pins(1 << set), 1);
            same(line.apart(1 << set), 1);
            same(line.pins(255 - (1 << set)), 7);
            same(line.apart(255 - (1 << set)), 7);
            same(line.cover(1 << set, set), 1);
            same(line.cover(255 - (1 << set), set), -1);
        }
        same(line.pins(255), 8);
        same(line.apart(255), 8);
    }

    // ---- promises: sets

    private static void span() {
        sentence("Returns how many GRAINS are in the SET then, that were not, or the other way round.");
        same(Lines.full().span(0, 0, 100, 3, true), 0);
        same(Lines.full().span(0, 0, 100, 3, false), 201);
        same(Lines.full().span(0, 0, 100, 0, false), 199);
        same(empty().span(0, 0, 100, 3, false), 0);
        same(with("[0,50)").span(0, 50, 100, 3, true), 101);
        same(with("[0,50)").span(0, 0, 50, 3, true), 1);
        same(with("[0,50)").span(0, 49, 100, 0, false), 1);
        sentence("0 without its ends, 1 with a, 2 with b, 3 with both (a as b is with both in any case)");
        String[] left = {"[0,0] [1,100]", "[1,100]", "[0,0] (1,100]", "(1,100]"};
        String[] right = {"[0,99] [100,100]", "[0,99) [100,100]", "[0,99]", "[0,99)"};
        for (int ends = 0; ends <= 3; ends++) {
            PuddingstoneLine line = Lines.full();
            line.span(0, 0, 1, ends, false);
            line.span(1, 99, 100, ends, false);
            spans(line, 0, left[ends]);
            spans(line, 1, right[ends]);
            same(line.span(2, 0, 0, ends, false), 1);
            same(line.span(2, 100, 100, ends, false), 1);
            spans(line, 2, "(0,100)");
        }
    }

    private static void join() {
        sentence("0 all that is in one or the other one, 1 in both, 2 in one but not the other one, 3 in just one of both");
        int[][] due = {{0, 201, 201, 201}, {0, 0, 0, 201}, {0, 0, 201, 0}, {0, 201, 201, 0}};
        for (int how = 0; how <= 3; how++) {
            PuddingstoneLine line = with("", "[0,100]");
            for (int pair = 0; pair < 4; pair++) {
                same(line.join(7, pair / 2, pair % 2, how), due[how][pair]);
                same(line.ofSet(7, 0), due[how][pair]);
            }
        }
        PuddingstoneLine line = with("[0,0] [50,50] [100,100]", "[0,50) (50,100]");
        line.join(2, 0, 1, 0);
        line.join(3, 0, 1, 1);
        line.join(4, 0, 1, 2);
        line.join(5, 0, 1, 3);
        spans(line, 2, "[0,100]");
        spans(line, 3, "[0,0] [100,100]");
        spans(line, 4, "[50,50]");
        spans(line, 5, "(0,100)");
        sentence("the SET that comes to be");
        for (int how = 0; how <= 3; how++) {
            int[] itself = {5, 5, 0, 0};
            PuddingstoneLine same = with("[0,1] [99,99] [100,100]");
            same(same.join(0, 0, 0, how), itself[how]);
            same(same.ofSet(0, 0), itself[how]);
        }
    }

    private static void change() {
        sentence("0 it has what it had not");
        changed("", 0, 201, "[0,100]");
        changed("[0,100]", 0, 0, "");
        changed("[0,0] [100,100]", 0, 199, "(0,100)");
        changed("(0,50) (50,100]", 0, 2, "[0,0] [50,50]");
        same(dotted().change(0, 0), 100);
        sentence("3 it has just those points alone of it that are SPANS by themselves");
        changed("", 3, 0, "");
        changed("[0,100]", 3, 0, "");
        changed("[0,0] (1,2) [3,3] [99,100) [100,100]", 3, 2, "[0,0] [3,3]");
        changed("(0,1) [100,100]", 3, 1, "[100,100]");
        changed("[0,1) (99,100]", 3, 0, "");
        same(dotted().change(0, 3), 101);
        same(dotted().change(1, 3), 0);
        sentence("4 mirrored (v comes to 100 - v)");
        changed("", 4, 0, "");
        changed("[0,100]", 4, 201, "[0,100]");
        changed("[0,0] (0,1)", 4, 2, "(99,100]");
        changed("[50,50]", 4, 1, "[50,50]");
        changed("(49,50)", 4, 1, "(50,51)");
        changed("(50,100]", 4, 100, "[0,50)");
        changed("[0,1) [98,98] (99,100)", 4, 4, "(0,1) [2,2] (99,100]");
        sentence("5 only the SPAN that is LONG the most is left, of several the first one");
        changed("", 5, 0, "");
        changed("[0,100]", 5, 201, "[0,100]");
        changed("[0,0] [50,50] [100,100]", 5, 1, "[0,0]");
        changed("[0,0] (98,99) [100,100]", 5, 1, "(98,99)");
        changed("(0,2) [97,98] [99,100]", 5, 3, "(0,2)");
        changed("(0,1) [50,51] [99,100]", 5, 1, "(0,1)");
        changed("(0,1) [50,51] [98,100]", 5, 5, "[98,100]");
        sentence("6 its GAPS are filled that are between two SPANS");
        changed("", 6, 0, "");
        changed("[0,100]", 6, 201, "[0,100]");
        changed("[0,0]", 6, 1, "[0,0]");
        changed("[100,100]", 6, 1, "[100,100]");
        changed("[0,0] [100,100]", 6, 201, "[0,100]");
        changed("(0,1) (99,100)", 6, 199, "(0,100)");
        changed("(10,20) [30,30] [40,41)", 6, 61, "(10,41)");
        same(dotted().change(0, 6), 201);
        same(dotted().change(1, 6), 199);
        sentence("7 it has nothing");
        changed("", 7, 0, "");
        changed("[0,100]", 7, 0, "");
    }

    private static void moved(String before, int by, int count, String after) {
        PuddingstoneLine line = with(before);
        same(line.move(0, by), count);
        spans(line, 0, after);
    }

    private static void stretched(String before, int times, int count, String after) {
        PuddingstoneLine line = with(before);
        same(line.stretch(0, times), count);
        spans(line, 0, after);
    }

    private static void moveAndStretch() {
        sentence("Moves a SET along the LINE; what would be beyond it is lost.");
        moved("[0,100]", 0, 201, "[0,100]");
        moved("", 100, 0, "");
        moved("[0,100]", 1, 199, "[1,100]");
        moved("[0,100]", -1, 199, "[0,99]");
        moved("[99,99]", 1, 1, "[100,100]");
        moved("[100,100]", 1, 0, "");
        moved("(99,100)", 1, 0, "");
        moved("[1,1]", -1, 1, "[0,0]");
        moved("[0,0]", -1, 0, "");
        moved("(0,1)", -1, 0, "");
        sentence("by how much to the right (below 0 to the left)");
        moved("[0,100]", 100, 1, "[100,100]");
        moved("[0,100]", -100, 1, "[0,0]");
        moved("(0,100]", 100, 0, "");
        moved("[0,100)", -100, 0, "");
        moved("(0,1]", 99, 2, "(99,100]");
        moved("[99,100)", -99, 2, "[0,1)");
        sentence("the point v (also between whole numbers) comes to v * times");
        stretched("(0,1)", 2, 3, "(0,2)");
        stretched("(0,1)", 10, 19, "(0,10)");
        stretched("[0,0]", 10, 1, "[0,0]");
        stretched("[1,2)", 10, 20, "[10,20)");
        stretched("[1,1] [2,2]", 2, 2, "[2,2] [4,4]");
        stretched("[0,100]", 2, 201, "[0,100]");
        stretched("[0,100]", 10, 201, "[0,100]");
        stretched("", 2, 0, "");
        sentence("what would be beyond 100 is lost");
        stretched("[50,50]", 2, 1, "[100,100]");
        stretched("[51,51]", 2, 0, "");
        stretched("(49,50)", 2, 3, "(98,100)");
        stretched("(50,51)", 2, 0, "");
        stretched("[10,10]", 10, 1, "[100,100]");
        stretched("[10,11]", 10, 1, "[100,100]");
        stretched("(10,100]", 10, 0, "");
        stretched("(33,34)", 3, 2, "(99,100]");
        stretched("(14,15)", 7, 4, "(98,100]");
        stretched("[100,100]", 2, 0, "");
    }

    private static void ofSetAndSpan() {
        sentence("0 how many GRAINS it has, 1 how many SPANS, 2 how LONG it is, 3 how many of its SPANS are points alone");
        int[][] facts = {{0, 0, 0, 0}, {201, 1, 100, 0}, {101, 101, 0, 101}, {100, 100, 100, 0}, {2, 2, 0, 2}};
        PuddingstoneLine line = dotted();
        line.join(2, 0, 1, 0);
        Lines.put(line, 3, "[0,0] [100,100]");
        int[] order = {4, 2, 0, 1, 3};
        for (int k = 0; k < order.length; k++) {
            for (int what = 0; what <= 3; what++) {
                same(line.ofSet(order[k], what), facts[k][what]);
            }
        }
        same(with("[0,0] (1,2) [3,4] [100,100]").ofSet(0, 3), 2);
        sentence("4 how many GAPS it has, 5 how LONG that GAP is that is so the most");
        int[][] gaps = {{1, 100}, {0, 0}, {100, 1}, {101, 0}, {1, 100}};
        for (int k = 0; k < order.length; k++) {
            same(line.ofSet(order[k], 4), gaps[k][0]);
            same(line.ofSet(order[k], 5), gaps[k][1]);
        }
        same(with("[1,98)").ofSet(0, 5), 2);
        same(with("(3,98)").ofSet(0, 5), 3);
        same(with("[0,0] [40,60] [70,70]").ofSet(0, 5), 40);
        sentence("Returns that; 0 for 5 without GAPS.");
        same(Lines.full().ofSet(7, 5), 0);
        same(with("(0,100)").ofSet(0, 5), 0);
        // What was asked of another SET ahead of it is of no account.
        PuddingstoneLine ahead = with("[10,20] [30,30]", "[0,100]");
        same(ahead.ofSpan(0, 1, 0), 30);
        same(ahead.ofSet(1, 5), 0);
        same(ahead.ofSet(0, 1), 2);
        same(ahead.ofSet(1, 5), 0);
        same(ahead.ofSet(0, 5), 70);
        same(ahead.ofSet(1, 5), 0);
        same(ahead.ofSpan(0, 0, 0), 10);
        same(ahead.change(2, 5), 0);
        same(ahead.ofSpan(0, 0, 0), 10);
        same(ahead.change(2, 6), 0);
        sentence("0 where it begins, 1 where it ends (0 to 100, whether it is with that or not)");
        String[] wholes = {"(0,100)", "[0,100)", "(0,100]", "[0,100]"};
        for (int ends = 0; ends <= 3; ends++) {
            same(with(wholes[ends]).ofSpan(0, 0, 0), 0);
            same(with(wholes[ends]).ofSpan(0, 0, 1), 100);
            same(with(wholes[ends]).ofSpan(0, 0, 2), ends);
        }
        same(with("[0,0]").ofSpan(0, 0, 1), 0);
        same(with("[100,100]").ofSpan(0, 0, 0), 100);
        same(with("(99,100)").ofSpan(0, 0, 0), 99);
        same(with("(0,1)").ofSpan(0, 0, 1), 1);
        sentence("2 its ends, as with span()");
        same(with("[0,0]").ofSpan(0, 0, 2), 3);
        same(with("[100,100]").ofSpan(0, 0, 2), 3);
        same(with("(0,1)").ofSpan(0, 0, 2), 0);
        same(with("[0,1)").ofSpan(0, 0, 2), 1);
        same(with("(99,100]").ofSpan(0, 0, 2), 2);
    }

    private static void hasFarAndBeside() {
        sentence("Returns whether it is in the SET.");
        for (int grain : new int[] {0, 1, 100, 199, 200}) {
            same(empty().has(7, grain), false);
            same(Lines.full().has(7, grain), true);
            same(dotted().has(0, grain), grain % 2 == 0);
            same(dotted().has(1, grain), grain % 2 == 1);
        }
        sentence("Returns how many GRAINS one goes from it to the nearest one that is in the SET; NONE if none is.");
        int[][] ends = {{0, 0, 200}, {1, 1, 199}, {100, 100, 100}, {199, 199, 1}, {200, 200, 0}};
        for (int[] e : ends) {
            same(empty().far(0, e[0]), -1);
            same(Lines.full().far(0, e[0]), 0);
            same(with("[0,0]").far(0, e[0]), e[1]);
            same(with("[100,100]").far(0, e[0]), e[2]);
            same(with("[0,0] [100,100]").far(0, e[0]), Math.min(e[1], e[2]));
        }
        sentence("Returns 0 if both have the same GRAINS");
        same(empty().beside(0, 7), 0);
        same(empty().beside(7, 7), 0);
        same(Lines.full().beside(0, 7), 0);
        same(Lines.mixed().beside(2, 2), 0);
        sentence("1 if all of the first one are in the other one, 2 the other way round");
        same(with("", "[0,0]").beside(0, 1), 1);
        same(with("", "[0,0]").beside(1, 0), 2);
        same(with("[0,100)", "[0,100]").beside(0, 1), 1);
        same(with("(0,100]", "[0,100]").beside(1, 0), 2);
        same(with("[0,0] [100,100]", "[0,1] [99,100]").beside(0, 1), 1);
        sentence("3 if they have some in common, 4 if they have none (the first of these that is so)");
        same(with("[0,50]", "[50,100]").beside(0, 1), 3);
        same(with("[0,50)", "[50,100]").beside(0, 1), 4);
        same(with("(0,100]", "[0,0] [100,100]").beside(0, 1), 3);
        same(with("[0,0] [50,50]", "[0,50)").beside(0, 1), 3);
        same(dotted().beside(0, 1), 4);
    }

    // ---- promises: functions

    private static void raiseAndSet() {
        sentence("Adds a number to a FUNCTION on a SPAN.");
        String[] due = {"0 1000 0", "1000 1000 0", "0 1000 1000", "1000 1000 1000"};
        for (int ends = 0; ends <= 3; ends++) {
            PuddingstoneLine line = empty();
            line.raise(0, 0, 1, ends, 1000);
            values(line, 0, 0, 3, due[ends] + " 0");
            line.raise(1, 99, 100, ends, -1000);
            values(line, 1, 197, 200, "0 " + due[ends].replace("1000", "-1000"));
            same(line.raise(2, 0, 0, ends, 1), 2);
            values(line, 2, 0, 1, "1 0");
            same(line.raise(2, 100, 100, ends, 1), 3);
            values(line, 2, 199, 200, "0 1");
        }
        sentence("Returns how many STEPS the FUNCTION has then.");
        same(empty().raise(4, 0, 100, 3, 0), 1);
        same(empty().raise(4, 0, 100, 3, 1000), 1);
        same(empty().raise(4, 0, 100, 1, -1000), 2);
        same(empty().raise(4, 0, 100, 2, 1), 2);
        same(empty().raise(4, 0, 100, 0, 1), 3);
        same(level(4, 10000).raise(4, 0, 50, 3, 1), 1);
        same(level(4, -10000).raise(4, 0, 50, 3, -1000), 1);
        sentence("Sets a FUNCTION to a number on all GRAINS of a SET.");
        for (int number : new int[] {-10000, -1, 0, 1, 10000}) {
            PuddingstoneLine line = level(0, 5);
            same(line.set(0, 0, number), 1);
            same(line.value(0, 0), 5);
            same(line.set(0, 7, number), 1);
            same(line.value(0, 0), number);
            same(line.value(0, 200), number);
            PuddingstoneLine ends = with("[0,0] [100,100]");
            same(ends.set(4, 0, number), number == 0 ? 1 : 3);
            values(ends, 4, 0, 1, number + " 0");
            values(ends, 4, 199, 200, "0 " + number);
        }
    }

    private static void mix() {
        sentence("0 the sum, 1 the smaller one, 2 the greater one, 3 the first one less the other one");
        int[][] pairs = {{0, 0}, {7, 7}, {-10000, 10000}, {10000, -10000}, {3, -4}};
        int[][] due = {{0, 0, 0, 0}, {14, 7, 7, 0}, {0, -10000, 10000, -10000}, {0, -10000, 10000, 10000},
            {-1, -4, 3, 7}};
        for (int k = 0; k < pairs.length; k++) {
            for (int how = 0; how <= 3; how++) {
                PuddingstoneLine line = level(0, pairs[k][0]);
                line.set(4, 7, pairs[k][1]);
                same(line.mix(2, 0, 4, how), 1);
                values(line, 2, 0, 1, due[k][how] + " " + due[k][how]);
                values(line, 2, 199, 200, due[k][how] + " " + due[k][how]);
            }
        }
        sentence("4 the product / 100, cut towards 0");
        int[][] products = {{1, 99, 0}, {1, -99, 0}, {1, 100, 1}, {-1, 100, -1}, {199, 1, 1}, {-199, 1, -1},
            {-199, -1, 1}, {10, 10, 1}, {10, -19, -1}, {0, 10000, 0}, {0, -10000, 0}, {10000, 1, 100},
            {-10000, 99, -9900}, {50, 3, 1}, {50, -3, -1}};
        for (int[] p : products) {
            PuddingstoneLine line = level(0, p[0]);
            line.set(1, 7, p[1]);
            line.mix(2, 0, 1, 4);
            same(line.value(2, 100), p[2]);
        }
        sentence("the FUNCTION that comes to be");
        int[] itself = {-10000, -7000, -7000, 0, 10000};
        for (int how = 0; how <= 4; how++) {
            PuddingstoneLine line = level(3, -7000);
            same(line.mix(3, 3, 3, how), 1);
            same(line.value(3, 0), itself[how]);
        }
        PuddingstoneLine line = level(0, 5);
        line.set(1, 7, 2);
        line.mix(1, 0, 1, 3);
        same(line.value(1, 0), 3);
    }

    private static PuddingstoneLine turned(int how, int n, int... values) {
        PuddingstoneLine line = Lines.valued(empty(), 0, 0, values);
        line.turn(0, how, n);
        return line;
    }

    private static void turn() {
        sentence("0 the VALUE with the other sign");
        same(level(0, 10000).turn(0, 0, MIN), 1);
        PuddingstoneLine most = level(0, 10000);
        most.turn(0, 0, 0);
        same(most.value(0, 0), -10000);
        most.turn(0, 0, 0);
        same(most.value(0, 200), 10000);
        same(turned(0, 0).value(0, 0), 0);
        values(turned(0, 0, -5, 7, 0, -1), 0, 0, 4, "5 -7 0 1 0");
        sentence("1 the greatest VALUE up to there, from the left");
        values(turned(1, 0, -5, -7, -3, 4, 4, 2), 0, 0, 6, "-5 -5 -3 4 4 4 4");
        same(turned(1, 0, 9).value(0, 200), 9);
        PuddingstoneLine last = with("[100,100]");
        last.set(0, 0, 9);
        same(last.turn(0, 1, 0), 2);
        values(last, 0, 199, 200, "0 9");
        sentence("2 that from the right");
        same(last.turn(0, 2, 0), 1);
        same(last.value(0, 0), 9);
        values(turned(2, 0, 9, -7, -3, 4, 4, 2, 0), 0, 0, 7, "9 4 4 4 4 2 0 0");
        for (int how = 1; how <= 2; how++) {
            PuddingstoneLine least = level(0, -10000);
            same(least.turn(0, how, 0), 1);
            same(least.value(0, 0), -10000);
            same(least.value(0, 200), -10000);
        }
        sentence("3 the sum of all VALUES up to there, from the left, on GRAINS that are no points");
        PuddingstoneLine ones = level(0, 1);
        same(ones.turn(0, 3, 0), 101);
        values(ones, 0, 0, 4, "0 1 1 2 2");
        values(ones, 0, 197, 200, "99 99 100 100");
        values(turned(3, 0, 7, 0, 7, 0, 7), 0, 0, 6, "0 0 0 0 0 0 0");
        sentence("(of a point: on those ahead of it; all together, then -10000 to 10000)");
        PuddingstoneLine great = level(0, 10000);
        same(great.turn(0, 3, 0), 2);
        values(great, 0, 0, 2, "0 10000 10000");
        same(great.value(0, 200), 10000);
        PuddingstoneLine little = level(0, -10000);
        little.turn(0, 3, 0);
        values(little, 0, 0, 2, "0 -10000 -10000");
        PuddingstoneLine back = with("[0,3]", "[3,6]", "[0,6]");
        back.set(0, 0, 10000);
        back.set(0, 1, -10000);
        back.turn(0, 3, 0);
        values(back, 0, 0, 13, "0 10000 10000 10000 10000 10000 10000 10000 10000 10000 10000 0 0 0");
        sentence("4 mirrored, as a SET");
        PuddingstoneLine mirrored = turned(4, 0, 1, 2, 3);
        values(mirrored, 0, 197, 200, "0 3 2 1");
        same(mirrored.value(0, 0), 0);
        PuddingstoneLine middle = with("[50,50]", "(50,51)");
        middle.set(0, 0, 8);
        middle.set(0, 1, 9);
        middle.turn(0, 4, 0);
        values(middle, 0, 98, 102, "0 9 8 0 0");
        near();
        sentence("not looked at but with 5 and 6");
        for (int how = 0; how <= 4; how++) {
            for (int n : new int[] {MIN, -1, 201, MAX}) {
                same(empty().turn(4, how, n), 1);
            }
        }
    }

    private static void near() {
        sentence("5 the greatest VALUE on GRAINS that are at most n GRAINS away, 6 the least one");
        values(turned(5, 0, 5, -3, 8), 0, 0, 3, "5 -3 8 0");
        values(turned(6, 0, 5, -3, 8), 0, 0, 3, "5 -3 8 0");
        values(turned(5, 1, 5, -3, 8), 0, 0, 4, "5 8 8 8 0");
        values(turned(6, 1, 5, -3, 8), 0, 0, 4, "-3 -3 -3 0 0");
        int[] hows = {5, 6};
        for (int how : hows) {
            int number = how == 5 ? 9 : -9;
            same(turned(how, 199, number).value(0, 200), 0);
            same(turned(how, 199, number).value(0, 199), number);
            same(turned(how, 200, number).value(0, 200), number);
            PuddingstoneLine right = with("[100,100]");
            right.set(0, 0, number);
            right.turn(0, how, 199);
            values(right, 0, 0, 1, "0 " + number);
            same(right.turn(0, how, 200), 1);
            same(right.value(0, 0), number);
            same(level(0, -10000).turn(0, how, 200), 1);
            PuddingstoneLine least = level(0, -10000);
            least.turn(0, how, 1);
            values(least, 0, 0, 1, "-10000 -10000");
            values(least, 0, 199, 200, "-10000 -10000");
            PuddingstoneLine greatest = level(0, 10000);
            greatest.turn(0, how, 1);
            values(greatest, 0, 0, 1, "10000 10000");
            values(greatest, 0, 199, 200, "10000 10000");
        }
        sentence("Changes a FUNCTION; all GRAINS at once, by what was there.");
        values(turned(5, 2, 9), 0, 0, 4, "9 9 9 0 0");
        values(turned(6, 2, -9), 0, 0, 4, "-9 -9 -9 0 0");
    }

    private static void thickAndWhere() {
        sentence("Makes a FUNCTION of a family: how THICK it is.");
        PuddingstoneLine full = Lines.full();
        same(full.thick(0, 255), 1);
        same(full.value(0, 0), 8);
        same(full.value(0, 200), 8);
        same(full.thick(0, 0), 1);
        same(full.value(0, 200), 0);
        same(full.thick(0, 129), 1);
        same(full.value(0, 100), 2);
        same(empty().thick(4, 255), 1);
        same(dotted().thick(4, 1), 201);
        same(dotted().thick(4, 3), 1);
        sentence("where its VALUE is from low to high");
        same(empty().where(0, 0, 0, 0), 201);
        same(empty().where(0, 0, 1, MAX), 0);
        same(empty().where(0, 0, MIN, -1), 0);
        same(empty().where(0, 0, MIN, MAX), 201);
        same(Lines.full().where(0, 0, 1, 0), 0);
        same(Lines.full().where(7, 4, 10000, 10000), 201);
        same(Lines.full().where(7, 4, 10001, MAX), 0);
        same(Lines.full().where(7, 3, -10000, -10000), 201);
        same(Lines.full().where(7, 3, MIN, -10001), 0);
        PuddingstoneLine line = Lines.valued(with("[0,100]"), 0, 0, 1, 2, 3, 4);
        same(line.where(0, 0, 2, 3), 2);
        spans(line, 0, "(0,1]");
    }

    private static void ofFunctionAndValue() {
        sentence("1 its least VALUE, 2 its greatest one, 3 the first GRAIN with its greatest VALUE");
        PuddingstoneLine line = with("[0,0]", "[100,100]", "[0,100)", "[0,100]");
        line.set(0, 0, -5);
        line.set(1, 1, -5);
        line.set(2, 2, -5);
        line.set(3, 3, -10000);
        line.set(4, 3, 10000);
        int[][] due = {{2, -5, 0, 1}, {2, -5, 0, 0}, {2, -5, 0, 200}, {1, -10000, -10000, 0}, {1, 10000, 10000, 0}};
        for (int function = 0; function < 5; function++) {
            for (int what = 0; what <= 3; what++) {
                same(line.ofFunction(function, what), due[function][what]);
            }
        }
        PuddingstoneLine first = with("[0,0]");
        first.set(0, 0, 5);
        same(first.ofFunction(0, 2), 5);
        same(first.ofFunction(0, 3), 0);
        PuddingstoneLine last = with("[100,100]");
        last.set(0, 0, 5);
        same(last.ofFunction(0, 2), 5);
        same(last.ofFunction(0, 3), 200);
        sentence("4 its AREA over the LINE");
        int[] areas = {0, 0, -500, -1000000, 1000000};
        for (int function = 0; function < 5; function++) {
            same(line.ofFunction(function, 4), areas[function]);
        }
        sentence("Returns the VALUE there.");
        values(Lines.valued(empty(), 4, 197, 1, -2, 3, -4), 4, 196, 200, "0 1 -2 3 -4");
        values(Lines.valued(empty(), 0, 0, 1000, -1000), 0, 0, 2, "1000 -1000 0");
    }

    private static void areaAndMean() {
        sentence("Returns its AREA over that.");
        PuddingstoneLine line = with("", "[0,100]", "(0,1)", "(99,100)", "[0,0] [100,100]");
        Lines.valued(line, 0, 0, 50, 7, 60);
        Lines.valued(line, 0, 198, 70, -9, 80);
        int[] areas = {0, -2, 7, -9, 0};
        for (int set = 0; set < areas.length; set++) {
            same(line.area(0, set), areas[set]);
        }
        sentence("Returns its AREA over that, divided by how LONG the SET is, not cut");
        same(line.mean(0, 1), -0.02);
        same(line.mean(0, 2), 7.0);
        same(line.mean(0, 3), -9.0);
        same(level(0, 10000).mean(0, 7), 10000.0);
        same(level(0, -10000).mean(0, 7), -10000.0);
        PuddingstoneLine third = Lines.valued(with("(0,3)"), 0, 1, 2);
        same(third.mean(0, 0), 2.0 / 3);
        same(third.mean(1, 0), 0.0);
        sentence("0 if that is 0");
        same(line.mean(0, 0), 0.0);
        same(line.mean(0, 4), 0.0);
        same(level(0, -10000).mean(0, 0), 0.0);
        PuddingstoneLine dots = dotted();
        dots.raise(0, 0, 100, 3, -1000);
        same(dots.mean(0, 0), 0.0);
        same(dots.mean(0, 1), -1000.0);
    }

    // ---- promises: families, and what would be

    private static void thickerAndCover() {
        sentence("Returns on how many GRAINS it is n THICK or more.");
        int[][] due = {{MIN, 201, 201}, {-1, 201, 201}, {0, 201, 201}, {1, 0, 201}, {8, 0, 201}, {9, 0, 0}, {MAX, 0, 0}};
        for (int[] d : due) {
            same(empty().thicker(255, d[0]), d[1]);
            same(Lines.full().thicker(0, d[0]), d[1]);
            same(Lines.full().thicker(255, d[0]), d[2]);
        }
        same(with("[0,0]", "[0,0]", "[100,100]").thicker(7, 1), 2);
        same(with("[0,0]", "[0,0]", "[100,100]").thicker(7, 2), 1);
        same(with("[0,0]", "[0,0]", "[100,100]").thicker(4, 1), 1);
        sentence("Returns with how many SPANS the COVER is; NONE without one.");
        same(dotted().cover(1, 0), 101);
        same(dotted().cover(2, 1), 100);
        same(dotted().cover(2, 0), -1);
        same(dotted().cover(1, 1), -1);
        PuddingstoneLine both = dotted();
        both.change(7, 0);
        same(both.cover(3, 7), 201);
        same(both.cover(131, 7), 1);
        sentence("a place in the COVER, from 0, from left to right");
        for (int k = 0; k <= 200; k++) {
            same(both.covers(3, 7, k), k % 2);
        }
        same(Checks.answer(() -> both.covers(3, 7, 201)), Checks.INDEX);
        same(Checks.answer(() -> both.covers(3, 7, -1)), Checks.INDEX);
        sentence("no such SET, or, if family is 0 to 255, no such place");
        same(Checks.answer(() -> both.covers(256, 7, 201)), Checks.ARGUMENT);
        same(Checks.answer(() -> both.covers(-1, 7, -1)), Checks.ARGUMENT);
        same(Checks.answer(() -> both.covers(256, 8, 201)), Checks.INDEX);
        same(Checks.answer(() -> both.covers(0, 7, 0)), Checks.INDEX);
        same(Checks.answer(() -> both.covers(255, 6, 0)), Checks.INDEX);
    }

    private static void apartAndPins() {
        sentence("Returns how many of its SPANS can be APART at most.");
        same(Lines.full().apart(0), 0);
        same(empty().apart(255), 0);
        same(Lines.full().apart(255), 1);
        same(dotted().apart(1), 101);
        same(dotted().apart(2), 100);
        same(dotted().apart(3), 201);
        PuddingstoneLine both = dotted();
        both.change(7, 0);
        same(both.apart(131), 201);
        same(with("[0,0]", "[0,100]", "[100,100]").apart(7), 2);
        sentence("Returns how many PINS there are.");
        same(Lines.full().pins(0), 0);
        same(empty().pins(255), 0);
        same(Lines.full().pins(255), 1);
        same(dotted().pins(1), 101);
        same(dotted().pins(2), 100);
        same(dotted().pins(3), 201);
        same(both.pins(131), 201);
        same(with("[0,0]", "[0,100]", "[100,100]").pins(7), 2);
    }

    private static void meetWithAndClear() {
        sentence("Returns how LONG what both have in common would be.");
        int[][] due = {{-100, 0}, {-99, 1}, {-1, 99}, {0, 100}, {1, 99}, {99, 1}, {100, 0}};
        for (int[] d : due) {
            same(Lines.full().meetWith(0, d[0], 7), d[1]);
            same(with("(0,100)").meetWith(0, d[0], 0), d[1]);
            same(Lines.full().meetWith(0, d[0], 0), d[1]);
            same(empty().meetWith(0, d[0], 7), 0);
        }
        same(with("(0,1)", "(99,100)").meetWith(0, 99, 1), 1);
        same(with("(0,1)", "(99,100)").meetWith(1, -99, 0), 1);
        same(with("(0,1)", "(99,100)").meetWith(0, 98, 1), 0);
        same(with("[0,0]", "[100,100]").meetWith(0, 100, 1), 0);
        sentence("a SET, as it is now (also if it is the same one)");
        same(with("[10,20]").meetWith(0, 7, 0), 3);
        same(with("[10,20]").clear(0, 0), 11);
        sentence("nearest to 0 (of two that below 0)");
        same(with("[50,50]", "[50,50]").clear(0, 1), -1);
        same(with("[50,50]", "[49,50]").clear(0, 1), 1);
        same(with("[0,0]", "[0,0]").clear(0, 1), 1);
        same(with("[100,100]", "[100,100]").clear(0, 1), -1);
        same(with("(50,51)", "[50,51]").clear(0, 1), -1);
        same(with("(0,50)", "(0,50)").clear(0, 1), 50);
        same(with("[0,50]", "[0,50]").clear(0, 1), 1000);
        same(with("", "[0,100]").clear(0, 1), 0);
        same(with("[0,100]", "").clear(0, 1), 0);
        same(empty().clear(3, 3), 0);
        same(dotted().clear(0, 1), 0);
        sentence("of -100 to 100");
        same(with("[0,0]", "[0,99]").clear(0, 1), 100);
        same(with("[0,0]", "[0,100)").clear(0, 1), 100);
        same(with("[100,100]", "[1,100]").clear(0, 1), -100);
        same(with("[100,100]", "(0,100]").clear(0, 1), -100);
        sentence("losing nothing");
        same(with("[0,100]", "[0,0]").clear(0, 1), 1000);
        same(with("[0,0] [100,100]", "[0,0]").clear(0, 1), 1000);
        same(with("[0,99]", "[0,0]").clear(0, 1), 1);
        same(with("[1,100]", "[100,100]").clear(0, 1), -1);
        same(with("(0,100)", "(99,100)").clear(0, 1), 1000);
        sentence("1000 if there is none");
        same(with("[0,0]", "[0,100]").clear(0, 1), 1000);
        same(Lines.full().clear(0, 7), 1000);
        same(with("(0,1)", "(0,100)").clear(0, 1), 1000);
    }

    private static void bestAndSaves() {
        sentence("Returns the first a, of 0 to 100 - n, for which the AREA over the SPAN from a to a + n is the greatest.");
        for (int n : new int[] {1, 2, 50, 99, 100}) {
            same(empty().best(0, n), 0);
            same(level(4, 10000).best(4, n), 0);
            same(level(4, -10000).best(4, n), 0);
            same(Lines.valued(empty(), 0, 199, 1).best(0, n), 100 - n);
            same(Lines.valued(empty(), 0, 1, 1).best(0, n), 0);
            same(Lines.valued(empty(), 0, 1, -1).best(0, n), n == 100 ? 0 : 1);
        }
        same(Lines.valued(empty(), 0, 1, 5, 0, 6, 0, 5).best(0, 1), 1);
        same(Lines.valued(empty(), 0, 1, 5, 0, 6, 0, 5).best(0, 2), 0);
        sentence("how LONG a SPAN is, with both ends");
        same(Lines.valued(empty(), 0, 0, 0, 0, 1000, 0, 0).best(0, 1), 0);
        same(Lines.valued(empty(), 0, 198, 1000, 1, 1000).best(0, 1), 99);
        sentence("Returns how many SPANS fewer the COVER of the first SET would have with the other one in the family, too");
        PuddingstoneLine both = dotted();
        both.change(7, 0);
        same(both.saves(3, 7, 7), 200);
        same(both.saves(3, 0, 7), 100);
        same(both.saves(131, 7, 7), 0);
        same(both.saves(3, 7, 2), 0);
        same(both.saves(1, 0, 0), 0);
        same(empty().saves(0, 0, 1), 0);
        same(empty().saves(255, 7, 7), 0);
        sentence("1000 if there is one only with it");
        same(both.saves(1, 7, 1), 1000);
        same(both.saves(2, 7, 0), 1000);
        same(both.saves(0, 0, 0), 1000);
        same(both.saves(0, 7, 7), 1000);
        sentence("NONE if there is none with it either");
        same(both.saves(0, 7, 0), -1);
        same(both.saves(1, 7, 0), -1);
        same(both.saves(124, 0, 1), -1);
        same(both.saves(0, 7, 2), -1);
    }

    // ---- promise: digest

    // The numbers of the checksum by the calls that the document names.
    private static long digestByCalls(PuddingstoneLine sets, PuddingstoneLine families, PuddingstoneLine[] functions) {
        long d = 965;
        for (int set = 0; set < 8; set++) {
            for (int what = 0; what <= 5; what++) {
                d = d * 31 + sets.ofSet(set, what);
            }
            for (int span = 0; span < families.ofSet(set, 1); span++) {
                for (int what = 0; what <= 2; what++) {
                    d = d * 31 + sets.ofSpan(set, span, what);
                }
            }
        }
        for (int function = 0; function < 5; function++) {
            for (int what = 0; what <= 4; what++) {
                d = d * 31 + functions[function].ofFunction(function, what);
            }
            for (int grain = 0; grain <= 200; grain++) {
                d = d * 31 + functions[function].value(function, grain);
            }
        }
        int[] last = {families.thicker(255, 1), families.thicker(255, 2), families.apart(255), families.pins(255)};
        for (int number : last) {
            d = d * 31 + number;
        }
        for (int set = 0; set < 8; set++) {
            d = d * 31 + families.cover(255 - (1 << set), set);
        }
        return d;
    }

    private interface Maker {
        PuddingstoneLine make();
    }

    private static void digests(Maker maker) {
        PuddingstoneLine[] functions = new PuddingstoneLine[5];
        for (int k = 0; k < functions.length; k++) {
            functions[k] = maker.make();
        }
        PuddingstoneLine line = maker.make();
        long due = digestByCalls(maker.make(), maker.make(), functions);
        same(line.digest(), due);
        same(line.digest(), due);
    }

    private static void digest() {
        sentence("A number d starts with 965; then d becomes d * 31 + v, which wraps around as a 64-bit integer");
        digests(PuddingstoneLine::new);
        digests(Lines::full);
        digests(Lines::mixed);
        digests(() -> with("[0,0] [2,2] (4,5) [99,100]", "(0,100)", "", "[0,50)", "[50,50]", "(50,100]", "", "[0,100]"));
        digests(() -> level(4, -10000));
    }

    public static void main(String[] args) {
        objects();
        theLine();
        spansAndGaps();
        openedAndClosed();
        limitsOfValues();
        coverAndApart();
        span();
        join();
        change();
        moveAndStretch();
        ofSetAndSpan();
        hasFarAndBeside();
        raiseAndSet();
        mix();
        turn();
        thickAndWhere();
        ofFunctionAndValue();
        areaAndMean();
        thickerAndCover();
        apartAndPins();
        meetWithAndClear();
        bestAndSaves();
        digest();
        checks.end("EdgeSentencesTest");
    }
}
