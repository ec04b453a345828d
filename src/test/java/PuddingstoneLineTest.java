import java.lang.reflect.Constructor;
import java.lang.reflect.Executable;
import java.lang.reflect.Field;
import java.lang.reflect.Member;
import java.lang.reflect.Method;
import java.lang.reflect.Modifier;
import java.util.TreeSet;

/** Promise by promise: ordinary inputs, the edges that the document names, and wrong inputs. */
public final class PuddingstoneLineTest {
    private static final int MIN = Integer.MIN_VALUE;
    private static final int MAX = Integer.MAX_VALUE;
    private static final String INDEX = Checks.INDEX;
    private static final String ARGUMENT = Checks.ARGUMENT;

    private static final Checks checks = new Checks();

    private static void same(String name, Object got, Object due) {
        checks.same(name, got, due);
    }

    private static void refused(PuddingstoneLine line, String name, String due, Checks.Call call) {
        checks.refused(line, name, due, call);
    }

    private static void face() {
        TreeSet<String> names = new TreeSet<>();
        for (Method method : PuddingstoneLine.class.getDeclaredMethods()) {
            if (Modifier.isPublic(method.getModifiers())) {
                names.add(describe(method, method.getReturnType() + " " + method.getName()));
            } else if (!method.isSynthetic()) {
                same(method + " is private", Modifier.isPrivate(method.getModifiers()), true);
                names.add("private " + method.getName());
            }
        }
        String index = "java.lang.IndexOutOfBoundsException";
        String both = index + " java.lang.IllegalArgumentException";
        String argument = "java.lang.IllegalArgumentException";
        String[] due = {
            "int span(int int int int boolean) " + both, "int join(int int int int) " + both,
            "int change(int int) " + both, "int move(int int) " + both, "int stretch(int int) " + both,
            "int ofSet(int int) " + both, "int ofSpan(int int int) " + both, "boolean has(int int) " + index,
            "int far(int int) " + index, "int beside(int int) " + index,
            "int raise(int int int int int) " + both, "int set(int int int) " + both,
            "int mix(int int int int) " + both, "int turn(int int int) " + both, "int thick(int int) " + both,
            "int where(int int int int) " + index, "int ofFunction(int int) " + both,
            "int value(int int) " + index, "int area(int int) " + index, "double mean(int int) " + index,
            "int thicker(int int) " + argument, "int cover(int int) " + both, "int covers(int int int) " + both,
            "int apart(int) " + argument, "int pins(int) " + argument, "int meetWith(int int int) " + both,
            "int clear(int int) " + index, "int best(int int) " + both, "int saves(int int int) " + both,
            "long digest() "};
        for (String method : due) {
            same("there is " + method, names.remove(method), true);
            String name = method.substring(method.indexOf(' ') + 1, method.indexOf('('));
            same("no private method is named " + name, names.contains("private " + name), false);
        }
        names.removeIf(name -> name.startsWith("private "));
        same("other public methods", names.toString(), "[]");
        for (Field field : PuddingstoneLine.class.getDeclaredFields()) {
            same(field + " is private", Modifier.isPrivate(field.getModifiers()), true);
        }
        Constructor<?>[] constructors = PuddingstoneLine.class.getDeclaredConstructors();
        same("constructors", constructors.length, 1);
        same("the constructor", describe(constructors[0], "new") + isPublic(constructors[0]), "new() true");
        same("the class is public and final", PuddingstoneLine.class.getModifiers(), Modifier.PUBLIC | Modifier.FINAL);
    }

    private static boolean isPublic(Member member) {
        return Modifier.isPublic(member.getModifiers());
    }

    private static String describe(Executable member, String name) {
        StringBuilder text = new StringBuilder(name).append("(");
        for (Class<?> type : member.getParameterTypes()) {
            text.append(text.charAt(text.length() - 1) == '(' ? "" : " ").append(type.getName());
        }
        text.append(") ");
        for (Class<?> type : member.getExceptionTypes()) {
            text.append(text.charAt(text.length() - 2) == ')' ? "" : " ").append(type.getName());
        }
        return text.toString();
    }

    private static void promise1NewObject() {
        PuddingstoneLine line = new PuddingstoneLine();
        for (int set = 0; set < 8; set++) {
            same("GRAINS of a new SET", line.ofSet(set, 0), 0);
        }
        for (int function = 0; function < 5; function++) {
            same("STEPS of a new FUNCTION", line.ofFunction(function, 0), 1);
            same("least of a new FUNCTION", line.ofFunction(function, 1), 0);
            same("greatest of a new FUNCTION", line.ofFunction(function, 2), 0);
        }
        same("digest of a new object", line.digest(), 4901070888546037432L);
        line.span(0, 0, 100, 3, true);
        same("another object", new PuddingstoneLine().ofSet(0, 0), 0);
    }

    private static void promise2Span() {
        PuddingstoneLine line = new PuddingstoneLine();
        same("span without ends", line.span(0, 10, 20, 0, true), 19);
        same("spans without ends", Lines.spans(line, 0), "(10,20)");
        same("span with a", line.span(1, 10, 20, 1, true), 20);
        same("spans with a", Lines.spans(line, 1), "[10,20)");
        same("span with b", line.span(2, 10, 20, 2, true), 20);
        same("spans with b", Lines.spans(line, 2), "(10,20]");
        same("span with both", line.span(3, 10, 20, 3, true), 21);
        same("spans with both", Lines.spans(line, 3), "[10,20]");
        same("again", line.span(3, 10, 20, 3, true), 0);
        same("overlapping", line.span(3, 15, 25, 0, true), 9);
        same("cut", line.span(3, 12, 14, 1, false), 4);
        same("what is left", Lines.spans(line, 3), "[10,12) [14,25)");
        same("cut where nothing is", line.span(3, 12, 14, 0, false), 0);
        same("cut out a point", line.span(3, 20, 20, 0, false), 1);
        same("spans beside the point", Lines.spans(line, 3), "[10,12) [14,20) (20,25)");
        for (int ends = 0; ends <= 3; ends++) {
            same("a as b, ends " + ends, line.span(4, 2 * ends, 2 * ends, ends, true), 1);
        }
        same("points", Lines.spans(line, 4), "[0,0] [2,2] [4,4] [6,6]");
        same("one long without ends", line.span(5, 7, 8, 0, true), 1);
        same("it is", Lines.spans(line, 5), "(7,8)");
        same("the whole LINE", line.span(6, 0, 100, 3, true), 201);
        same("its left end cut", line.span(6, 0, 0, 0, false), 1);
        same("its right end cut", line.span(6, 100, 100, 0, false), 1);
        same("what is left of it", Lines.spans(line, 6), "(0,100)");

        int[] noSets = {-1, 8, MIN, MAX};
        for (int set : noSets) {
            refused(line, "span, set " + set, INDEX, () -> line.span(set, 0, 1, 3, true));
            refused(line, "span, all wrong, set " + set, INDEX, () -> line.span(set, -1, -2, 4, false));
        }
        int[][] wrong = {{-1, 5, 0}, {0, 101, 0}, {6, 5, 0}, {0, 5, -1}, {0, 5, 4}, {5, 5, 4}, {101, 101, 3},
            {-1, -1, 3}, {MIN, 5, 0}, {0, MAX, 0}, {MAX, MIN, 0}, {0, 5, MIN}, {0, 5, MAX}};
        for (int[] w : wrong) {
            refused(line, "span(7, " + w[0] + ", " + w[1] + ", " + w[2] + ")", ARGUMENT,
                () -> line.span(7, w[0], w[1], w[2], true));
            refused(line, "span cut (6, " + w[0] + ", " + w[1] + ", " + w[2] + ")", ARGUMENT,
                () -> line.span(6, w[0], w[1], w[2], false));
        }
    }

    private static void promise3Join() {
        String[] due = {"[10,30]", "(15,20)", "[10,15] [20,20]", "[10,15] [20,30]"};
        int[] counts = {41, 9, 12, 32};
        for (int how = 0; how <= 3; how++) {
            PuddingstoneLine line = Lines.with("[10,20]", "(15,20) (20,30]", "[90,95]");
            same("join " + how, line.join(2, 0, 1, how), counts[how]);
            same("joined " + how, Lines.spans(line, 2), due[how]);
            same("one is left as it is", Lines.spans(line, 0), "[10,20]");
            same("the other is left as it is", Lines.spans(line, 1), "(15,20) (20,30]");
            same("join into one " + how, line.join(0, 0, 1, how), counts[how]);
            same("joined into one " + how, Lines.spans(line, 0), due[how]);
        }
        PuddingstoneLine line = Lines.with("[10,20]", "[15,30]");
        same("join into the other", line.join(1, 0, 1, 2), 10);
        same("joined into the other", Lines.spans(line, 1), "[10,15)");
        same("with itself, just one", line.join(0, 0, 0, 3), 0);
        Lines.put(line, 3, "[0,0] [100,100]");
        same("at both ends of the LINE", line.join(4, 3, 1, 0), 12);
        same("joined at both ends", Lines.spans(line, 4), "[0,0] [10,15) [100,100]");
        refused(line, "join to -1", INDEX, () -> line.join(-1, 0, 1, 0));
        refused(line, "join to 8", INDEX, () -> line.join(8, 0, 1, 4));
        refused(line, "join one 8", INDEX, () -> line.join(0, 8, 1, 0));
        refused(line, "join one -1", INDEX, () -> line.join(0, -1, 1, -1));
        refused(line, "join other 8", INDEX, () -> line.join(0, 1, 8, 0));
        refused(line, "join other -1", INDEX, () -> line.join(0, 1, -1, 9));
        refused(line, "join how 4", ARGUMENT, () -> line.join(0, 1, 1, 4));
        refused(line, "join how -1", ARGUMENT, () -> line.join(0, 1, 1, -1));
    }

    private static void changed(String before, int how, int count, String after) {
        PuddingstoneLine line = before.isEmpty() ? new PuddingstoneLine() : Lines.with("[3,4]", before);
        if (before.isEmpty()) {
            line.span(0, 3, 4, 3, true);
        }
        same("change " + how + " of " + before, line.change(1, how), count);
        same("changed " + how + " of " + before, Lines.spans(line, 1), after);
        same("another SET", Lines.spans(line, 0), "[3,4]");
    }

    private static void promise4Change() {
        changed("[10,20) [100,100]", 0, 201 - 21, "[0,10) [20,100)");
        changed("", 0, 201, "[0,100]");
        changed("[0,100]", 0, 0, "");
        changed("[10,20] (30,40) [50,50] [60,70) [70,80]", 1, 19 + 19 + 39, "(10,20) (30,40) (60,80)");
        changed("(10,15) (15,20)", 1, 18, "(10,15) (15,20)");
        changed("[0,100]", 1, 201, "[0,100]");
        changed("[0,0] [100,100]", 1, 0, "");
        changed("[0,1] [99,100]", 1, 4, "[0,1) (99,100]");
        changed("(10,20) (20,30] [50,50] (99,100)", 2, 41 + 1 + 3, "[10,30] [50,50] [99,100]");
        changed("(0,1)", 2, 3, "[0,1]");
        changed("", 2, 0, "");
        changed("[0,0] [4,5] [10,10] (10,11] (12,13) [14,14] (20,21) [100,100]", 3, 3, "[0,0] [14,14] [100,100]");
        changed("(0,100)", 3, 0, "");
        changed("[0,0] [99,100)", 3, 1, "[0,0]");
        changed("[0,1] (99,100]", 3, 0, "");
        changed("[0,10) (20,30] [40,40]", 4, 20 + 20 + 1, "[60,60] [70,80) (90,100]");
        changed("[50,50] (50,51)", 4, 2, "(49,50]");
        changed("[10,20) (30,40] (50,55)", 5, 20, "[10,20)");
        changed("(10,20) [30,40]", 5, 19, "(10,20)");
        changed("[10,20] (30,41)", 5, 21, "(30,41)");
        changed("[7,7] [9,9]", 5, 1, "[7,7]");
        changed("[0,0] [10,12] [100,100]", 5, 5, "[10,12]");
        changed("[7,7] (9,10)", 5, 1, "(9,10)");
        changed("", 5, 0, "");
        changed("(10,20) (20,30) [40,41)", 6, 61, "(10,41)");
        changed("[0,0] [100,100]", 6, 201, "[0,100]");
        changed("(5,6)", 6, 1, "(5,6)");
        changed("", 6, 0, "");
        changed("[0,100]", 7, 0, "");
        PuddingstoneLine line = Lines.with("[10,20]");
        for (int set : new int[] {-1, 8, MIN, MAX}) {
            refused(line, "change, set " + set, INDEX, () -> line.change(set, 0));
            refused(line, "change, both wrong, set " + set, INDEX, () -> line.change(set, 8));
        }
        for (int how : new int[] {-1, 8, MIN, MAX}) {
            refused(line, "change, how " + how, ARGUMENT, () -> line.change(0, how));
        }
    }

    private static void promise5Move() {
        PuddingstoneLine line = Lines.with("[10,20) (30,40]");
        same("move by 0", line.move(0, 0), 40);
        same("moved by 0", Lines.spans(line, 0), "[10,20) (30,40]");
        same("move right", line.move(0, 5), 40);
        same("moved right", Lines.spans(line, 0), "[15,25) (35,45]");
        same("move left", line.move(0, -20), 10 + 20);
        same("moved left", Lines.spans(line, 0), "[0,5) (15,25]");
        same("what was lost is lost", line.move(0, 80), 10 + 10);
        same("moved over the end", Lines.spans(line, 0), "[80,85) (95,100]");
        same("move by 100", line.move(0, 100), 0);
        line.span(1, 0, 100, 3, true);
        same("all by 100", line.move(1, 100), 1);
        same("all moved by 100", Lines.spans(line, 1), "[100,100]");
        same("back", line.move(1, -100), 1);
        same("moved back", Lines.spans(line, 1), "[0,0]");
        for (int set : new int[] {-1, 8, MIN, MAX}) {
            refused(line, "move, set " + set, INDEX, () -> line.move(set, 1));
            refused(line, "move, both wrong, set " + set, INDEX, () -> line.move(set, 101));
        }
        for (int by : new int[] {-101, 101, MIN, MAX}) {
            refused(line, "move by " + by, ARGUMENT, () -> line.move(1, by));
        }
    }

    private static void promise6Stretch() {
        PuddingstoneLine line = Lines.with("[2,3] (5,6) [8,8]", "[33,34)", "(49,51)", "[0,0]", "(0,10]", "(0,100)");
        same("stretch by 3", line.stretch(0, 3), 7 + 5 + 1);
        same("stretched by 3", Lines.spans(line, 0), "[6,9] (15,18) [24,24]");
        same("over the end", line.stretch(1, 3), 3);
        same("stretched over the end", Lines.spans(line, 1), "[99,100]");
        same("to the end", line.stretch(2, 2), 5 - 1);
        same("stretched to the end", Lines.spans(line, 2), "(98,100]");
        same("0 stays", line.stretch(3, 10), 1);
        same("0 stayed", Lines.spans(line, 3), "[0,0]");
        same("by 10", line.stretch(4, 10), 200);
        same("stretched by 10", Lines.spans(line, 4), "(0,100]");
        same("all by 7", line.stretch(5, 7), 200);
        same("stretched all by 7", Lines.spans(line, 5), "(0,100]");
        Lines.put(line, 6, "[51,60]");
        same("all lost", line.stretch(6, 2), 0);
        Lines.put(line, 6, "[100,100]");
        same("the end is lost", line.stretch(6, 10), 0);
        for (int set : new int[] {-1, 8, MIN, MAX}) {
            refused(line, "stretch, set " + set, INDEX, () -> line.stretch(set, 2));
            refused(line, "stretch, both wrong, set " + set, INDEX, () -> line.stretch(set, 1));
        }
        for (int times : new int[] {1, 11, 0, -2, MIN, MAX}) {
            refused(line, "stretch, times " + times, ARGUMENT, () -> line.stretch(4, times));
        }
    }

    private static void promise7OfSet() {
        int[][] due = {{0, 0, 0, 0, 1, 100}, {201, 1, 100, 0, 0, 0}, {1, 1, 0, 1, 2, 60}, {60, 4, 30, 1, 5, 40},
            {200, 2, 100, 0, 1, 0}, {2, 2, 0, 2, 1, 100}};
        PuddingstoneLine line = Lines.with("", "[0,100]", "[40,40]", "[10,20] [30,30] (40,50) (50,60)", "[0,7) (7,100]",
            "[0,0] [100,100]");
        for (int what = 0; what <= 5; what++) {
            for (int set = 0; set < due.length; set++) {
                same("ofSet(" + set + ", " + what + ")", line.ofSet(set, what), due[set][what]);
            }
        }
        for (int set : new int[] {-1, 8, MIN, MAX}) {
            refused(line, "ofSet, set " + set, INDEX, () -> line.ofSet(set, 0));
            refused(line, "ofSet, both wrong, set " + set, INDEX, () -> line.ofSet(set, 6));
        }
        for (int what : new int[] {-1, 6, MIN, MAX}) {
            refused(line, "ofSet, what " + what, ARGUMENT, () -> line.ofSet(0, what));
        }
    }

    private static void promise8OfSpan() {
        PuddingstoneLine line = Lines.with("[0,0] (0,5) (5,6] [8,8] [10,99) (99,100]", "(3,4)");
        // the first two SPANS touch: 0 is beside all between 0 and 5
        int[][] due = {{0, 5, 1}, {5, 6, 2}, {8, 8, 3}, {10, 99, 1}, {99, 100, 2}};
        for (int span = 0; span < due.length; span++) {
            for (int what = 0; what <= 2; what++) {
                same("ofSpan(0, " + span + ", " + what + ")", line.ofSpan(0, span, what), due[span][what]);
            }
        }
        same("ends of (3,4)", line.ofSpan(1, 0, 2), 0);
        same("begin of (3,4)", line.ofSpan(1, 0, 0), 3);
        same("end of (3,4)", line.ofSpan(1, 0, 1), 4);
        for (int set : new int[] {-1, 8, MIN, MAX}) {
            refused(line, "ofSpan, set " + set, INDEX, () -> line.ofSpan(set, 0, 0));
            refused(line, "ofSpan, all wrong, set " + set, INDEX, () -> line.ofSpan(set, -1, 3));
        }
        for (int span : new int[] {-1, 5, 6, MIN, MAX}) {
            refused(line, "ofSpan, span " + span, INDEX, () -> line.ofSpan(0, span, 0));
            refused(line, "ofSpan, span and what, " + span, INDEX, () -> line.ofSpan(0, span, 3));
        }
        refused(line, "ofSpan of a SET without", INDEX, () -> line.ofSpan(2, 0, 0));
        for (int what : new int[] {-1, 3, MIN, MAX}) {
            refused(line, "ofSpan, what " + what, ARGUMENT, () -> line.ofSpan(0, 0, what));
        }
    }

    private static void promise9Has() {
        PuddingstoneLine line = Lines.with("[0,0] (10,12] (99,100]");
        int[] in = {0, 21, 22, 23, 24, 199, 200};
        for (int grain : in) {
            same("has " + grain, line.has(0, grain), true);
        }
        for (int grain : new int[] {1, 20, 25, 198}) {
            same("has not " + grain, line.has(0, grain), false);
        }
        refusedOfSetAndGrain(line, "has", (set, grain) -> line.has(set, grain));
    }

    private interface OfTwo {
        Object run(int one, int other);
    }

    private static void refusedOfSetAndGrain(PuddingstoneLine line, String name, OfTwo call) {
        for (int set : new int[] {-1, 8, MIN, MAX}) {
            refused(line, name + ", set " + set, INDEX, () -> call.run(set, 0));
        }
        for (int grain : new int[] {-1, 201, MIN, MAX}) {
            refused(line, name + ", grain " + grain, INDEX, () -> call.run(0, grain));
        }
    }

    private static void promise10Far() {
        PuddingstoneLine line = Lines.with("[10,10] (20,21)", "", "[0,0]", "[100,100]");
        int[][] due = {{20, 0}, {0, 20}, {30, 10}, {31, 10}, {32, 9}, {41, 0}, {42, 1}, {200, 159}};
        for (int[] d : due) {
            same("far(0, " + d[0] + ")", line.far(0, d[0]), d[1]);
        }
        same("far in an empty SET", line.far(1, 100), -1);
        same("far from the right end", line.far(2, 200), 200);
        same("far from the left end", line.far(3, 0), 200);
        same("far at it", line.far(3, 200), 0);
        refusedOfSetAndGrain(line, "far", (set, grain) -> line.far(set, grain));
    }

    private static void promise11Beside() {
        PuddingstoneLine line = Lines.with("[10,20]", "(10,20)", "[20,30]", "(20,30)", "", "", "[10,20]");
        int[][] due = {{0, 0, 0}, {0, 6, 0}, {4, 5, 0}, {1, 0, 1}, {0, 1, 2}, {4, 0, 1}, {0, 4, 2}, {0, 2, 3},
            {2, 0, 3}, {0, 3, 4}, {3, 0, 4}, {1, 2, 4}, {3, 2, 1}};
        for (int[] d : due) {
            same("beside(" + d[0] + ", " + d[1] + ")", line.beside(d[0], d[1]), d[2]);
        }
        PuddingstoneLine ends = Lines.with("[0,0]", "[100,100]", "[0,100]");
        same("both ends", ends.beside(0, 1), 4);
        same("the left end", ends.beside(0, 2), 1);
        same("the right end", ends.beside(2, 1), 2);
        refusedOfTwoSets(line, "beside", (one, other) -> line.beside(one, other));
    }

    private static void refusedOfTwoSets(PuddingstoneLine line, String name, OfTwo call) {
        for (int set : new int[] {-1, 8, MIN, MAX}) {
            refused(line, name + ", one " + set, INDEX, () -> call.run(set, 0));
            refused(line, name + ", other " + set, INDEX, () -> call.run(0, set));
        }
    }

    private static void promise12Raise() {
        PuddingstoneLine line = new PuddingstoneLine();
        same("raise", line.raise(0, 10, 20, 3, 100), 3);
        same("raised with both ends", Lines.values(line, 0, 19, 21) + " " + Lines.values(line, 0, 39, 41),
            "0 100 100 100 100 0");
        same("raise without ends", line.raise(0, 10, 20, 0, -30), 5);
        same("raised without ends", Lines.values(line, 0, 19, 22) + " " + Lines.values(line, 0, 38, 41),
            "0 100 70 70 70 70 100 0");
        same("raise with a", line.raise(1, 0, 1, 1, 5), 2);
        same("raised with a", Lines.values(line, 1, 0, 3), "5 5 0 0");
        same("raise with b", line.raise(2, 99, 100, 2, 5), 2);
        same("raised with b", Lines.values(line, 2, 197, 200), "0 0 5 5");
        same("raise a point", line.raise(3, 50, 50, 0, -7), 3);
        same("raised a point", Lines.values(line, 3, 99, 101), "0 -7 0");
        same("raise by 0", line.raise(3, 0, 100, 3, 0), 3);
        for (int k = 0; k < 12; k++) {
            line.raise(4, 0, 50, 1, 999);
            line.raise(4, 50, 100, 2, -999);
        }
        same("no more than that", Lines.values(line, 4, 98, 102), "10000 10000 0 -10000 -10000");
        same("back from the limit", line.raise(4, 0, 100, 3, -1000), 3);
        same("as it is then", Lines.values(line, 4, 99, 101), "9000 -1000 -10000");
        same("by 1000", line.raise(4, 0, 100, 3, 1000), 3);
        for (int function : new int[] {-1, 5, MIN, MAX}) {
            refused(line, "raise, function " + function, INDEX, () -> line.raise(function, 0, 1, 3, 1));
            refused(line, "raise, all wrong, " + function, INDEX, () -> line.raise(function, -1, -2, 4, 1001));
        }
        int[][] wrong = {{-1, 5, 0, 1}, {0, 101, 0, 1}, {6, 5, 0, 1}, {0, 5, -1, 1}, {0, 5, 4, 1}, {0, 5, 0, 1001},
            {0, 5, 0, -1001}, {MIN, MAX, 0, 1}, {0, 5, MAX, 1}, {0, 5, 0, MIN}, {0, 5, 0, MAX}, {101, 101, 0, 1}};
        for (int[] w : wrong) {
            refused(line, "raise(3, " + w[0] + ", " + w[1] + ", " + w[2] + ", " + w[3] + ")", ARGUMENT,
                () -> line.raise(3, w[0], w[1], w[2], w[3]));
        }
    }

    private static void promise13Set() {
        PuddingstoneLine line = Lines.with("[0,1) [50,50] (99,100]");
        line.raise(0, 0, 100, 3, 7);
        same("set", line.set(0, 0, -10000), 5);
        same("set left", Lines.values(line, 0, 0, 2), "-10000 -10000 7");
        same("set in between", Lines.values(line, 0, 99, 101), "7 -10000 7");
        same("set right", Lines.values(line, 0, 198, 200), "7 -10000 -10000");
        same("set 10000", line.set(0, 0, 10000), 5);
        same("set to what is there", line.set(0, 0, 7), 1);
        same("set on nothing", line.set(0, 1, 5), 1);
        same("nothing was set", line.value(0, 100), 7);
        for (int k : new int[] {-1, MIN, MAX}) {
            refused(line, "set, function " + k, INDEX, () -> line.set(k, 0, 1));
            refused(line, "set, function and number, " + k, INDEX, () -> line.set(k, 0, 10001));
            refused(line, "set, set " + k, INDEX, () -> line.set(0, k, 1));
            refused(line, "set, set and number, " + k, INDEX, () -> line.set(0, k, -10001));
        }
        refused(line, "set, function 5", INDEX, () -> line.set(5, 0, 1));
        refused(line, "set, set 8", INDEX, () -> line.set(0, 8, 10001));
        for (int number : new int[] {-10001, 10001, MIN, MAX}) {
            refused(line, "set, number " + number, ARGUMENT, () -> line.set(0, 0, number));
        }
    }

    private static void promise14Mix() {
        String[] due = {"13 -4 3 51 0 -1000", "3 -7 -20 1 0 -1000", "10 3 23 50 0 0", "-7 10 -43 49 0 -1000",
            "0 0 -4 0 0 0"};
        for (int how = 0; how <= 4; how++) {
            PuddingstoneLine line = new PuddingstoneLine();
            Lines.valued(line, 0, 0, 3, 3, -20, 50, 0, -1000);
            Lines.valued(line, 1, 0, 10, -7, 23, 1, 0, 0);
            line.raise(2, 0, 100, 3, 77);
            line.mix(2, 0, 1, how);
            same("mix " + how, Lines.values(line, 2, 0, 5), due[how]);
            same("one is left as it is", Lines.values(line, 0, 0, 5), "3 3 -20 50 0 -1000");
            same("other is left as it is", Lines.values(line, 1, 0, 5), "10 -7 23 1 0 0");
            line.mix(0, 0, 1, how);
            same("mix into one " + how, Lines.values(line, 0, 0, 5), due[how]);
        }
        PuddingstoneLine line = Lines.with("[0,9]", "[10,19]", "[20,29]", "[30,39]");
        int[] left = {10000, -10000, 10000, -149};
        int[] right = {10000, 10000, -10000, -1};
        for (int set = 0; set < 4; set++) {
            line.set(0, set, left[set]);
            line.set(1, set, right[set]);
        }
        String[] limited = {"10000 0 0 -150", "10000 -10000 -10000 -149", "10000 10000 10000 -1",
            "0 -10000 10000 -148", "10000 -10000 -10000 1"};
        for (int how = 0; how <= 4; how++) {
            line.mix(2, 0, 1, how);
            String got = line.value(2, 0) + " " + line.value(2, 20) + " " + line.value(2, 40) + " " + line.value(2, 60);
            same("mix at the limits " + how, got, limited[how]);
        }
        line.set(0, 0, 5000);
        line.set(1, 0, -77);
        line.mix(2, 0, 1, 4);
        same("a product / 100", line.value(2, 0), -3850);
        line.set(0, 0, 10000);
        line.set(1, 0, 10000);
        same("STEPS of a mix", line.mix(3, 0, 1, 0), 4);
        same("mix of a FUNCTION with itself", line.mix(4, 0, 0, 3), 1);
        for (int k : new int[] {-1, 5, MIN, MAX}) {
            refused(line, "mix to " + k, INDEX, () -> line.mix(k, 0, 1, 0));
            refused(line, "mix one " + k, INDEX, () -> line.mix(2, k, 1, 5));
            refused(line, "mix other " + k, INDEX, () -> line.mix(2, 0, k, -1));
            if (k != 5) {
                refused(line, "mix how " + k, ARGUMENT, () -> line.mix(2, 0, 1, k));
            }
        }
        refused(line, "mix how 5", ARGUMENT, () -> line.mix(2, 0, 1, 5));
    }

    private static void turned(int how, int n, int steps, String left, String right) {
        PuddingstoneLine line = new PuddingstoneLine();
        Lines.valued(line, 0, 0, 5, -3, 8, 8, 2, 0, -1);
        Lines.valued(line, 0, 196, 4, -6, 0, 9, -2);
        line.raise(1, 7, 8, 0, 3);
        same("turn " + how, line.turn(0, how, n), steps);
        same("turned " + how + ", left", Lines.values(line, 0, 0, 8), left);
        same("turned " + how + ", right", Lines.values(line, 0, 195, 200), right);
        same("another FUNCTION", Lines.values(line, 1, 14, 16), "0 3 0");
    }

    private static void promise15Turn() {
        turned(0, 0, 12, "-5 3 -8 -8 -2 0 1 0 0", "0 -4 6 0 -9 2");
        turned(1, 0, 3, "5 5 8 8 8 8 8 8 8", "8 8 8 8 9 9");
        turned(2, 0, 2, "9 9 9 9 9 9 9 9 9", "9 9 9 9 9 -2");
        turned(3, 0, 5, "0 -3 -3 5 5 5 5 5 5", "5 5 -1 -1 8 8");
        turned(4, 0, 12, "-2 9 0 -6 4 0 0 0 0", "0 2 8 8 -3 5");
        turned(5, 0, 12, "5 -3 8 8 2 0 -1 0 0", "0 4 -6 0 9 -2");
        turned(5, 1, 6, "5 8 8 8 8 2 0 0 0", "4 4 4 9 9 9");
        turned(5, 200, 1, "9 9 9 9 9 9 9 9 9", "9 9 9 9 9 9");
        turned(6, 0, 12, "5 -3 8 8 2 0 -1 0 0", "0 4 -6 0 9 -2");
        turned(6, 1, 7, "-3 -3 -3 2 0 -1 -1 -1 0", "0 -6 -6 -6 -2 -2");
        turned(6, 3, 4, "-3 -3 -3 -3 -3 -1 -1 -1 -1", "-6 -6 -6 -6 -6 -6");
        turned(6, 200, 1, "-6 -6 -6 -6 -6 -6 -6 -6 -6", "-6 -6 -6 -6 -6 -6");
        for (int how = 0; how <= 4; how++) {
            for (int n : new int[] {-1, 201, MIN, MAX}) {
                PuddingstoneLine line = new PuddingstoneLine();
                same("n is not looked at, how " + how, line.turn(0, how, n), 1);
            }
        }
        PuddingstoneLine below = Lines.with("", "[0,100)", "[100,100]", "(99,100]");
        below.set(0, 1, -4);
        below.set(0, 2, -7);
        below.turn(0, 1, 0);
        same("greatest from the left, all below 0",
            Lines.values(below, 0, 0, 1) + " " + Lines.values(below, 0, 199, 200), "-4 -4 -4 -4");
        below.set(0, 3, -9);
        below.set(0, 2, -7);
        below.turn(0, 2, 0);
        same("greatest from the right, all below 0",
            Lines.values(below, 0, 0, 1) + " " + Lines.values(below, 0, 198, 200), "-4 -4 -4 -7 -7");
        PuddingstoneLine line = Lines.with("[0,2]", "[2,5]");
        line.set(0, 0, 9000);
        line.set(0, 1, -9000);
        line.turn(0, 3, 0);
        same("the limits hold for the sum alone", Lines.values(line, 0, 0, 9),
            "0 9000 9000 10000 10000 9000 9000 0 0 -9000");
        for (int function : new int[] {-1, 5, MIN, MAX}) {
            refused(line, "turn, function " + function, INDEX, () -> line.turn(function, 0, 0));
            refused(line, "turn, all wrong, " + function, INDEX, () -> line.turn(function, 7, 201));
        }
        for (int how : new int[] {-1, 7, MIN, MAX}) {
            refused(line, "turn, how " + how, ARGUMENT, () -> line.turn(0, how, 1));
        }
        for (int n : new int[] {-1, 201, MIN, MAX}) {
            refused(line, "turn 5, n " + n, ARGUMENT, () -> line.turn(0, 5, n));
            refused(line, "turn 6, n " + n, ARGUMENT, () -> line.turn(0, 6, n));
        }
    }

    private static void promise16Thick() {
        PuddingstoneLine line = Lines.with("[10,20]", "[15,30]", "[20,20]", "", "", "", "", "[0,100]");
        line.raise(0, 0, 100, 3, 500);
        same("thick 7", line.thick(0, 7), 6);
        String got = Lines.values(line, 0, 19, 20) + " " + Lines.values(line, 0, 29, 30) + " "
            + Lines.values(line, 0, 39, 41);
        same("thickness 7", got + " " + Lines.values(line, 0, 60, 61), "0 1 1 2 2 3 1 1 0");
        same("thick 128", line.thick(0, 128), 1);
        same("thickness 128", line.value(0, 100), 1);
        same("thick 0", line.thick(0, 0), 1);
        same("thickness 0", line.value(0, 40), 0);
        same("thick 255", line.thick(0, 255), 6);
        same("thickness 255", line.value(0, 40), 4);
        for (int function : new int[] {-1, 5, MIN, MAX}) {
            refused(line, "thick, function " + function, INDEX, () -> line.thick(function, 1));
            refused(line, "thick, both wrong, " + function, INDEX, () -> line.thick(function, 256));
        }
        for (int family : new int[] {-1, 256, MIN, MAX}) {
            refused(line, "thick, family " + family, ARGUMENT, () -> line.thick(0, family));
        }
    }

    private static void promise17Where() {
        PuddingstoneLine line = Lines.with("[0,100]");
        Lines.valued(line, 0, 10, 1, 2, 3, 4, 5, -1, -2);
        same("where 2 to 4", line.where(0, 0, 2, 4), 3);
        same("it is there", Lines.spans(line, 0), "(5,7)");
        same("where 5", line.where(0, 0, 5, 5), 1);
        same("it is there alone", Lines.spans(line, 0), "[7,7]");
        same("where not 0", line.where(1, 0, MIN, -1), 2);
        same("where 1 or more", line.where(2, 0, 1, MAX), 5);
        same("where anything", line.where(2, 0, MIN, MAX), 201);
        same("low above high", line.where(2, 0, 1, 0), 0);
        same("low above high by far", line.where(2, 0, MAX, MIN), 0);
        same("where 0", line.where(3, 0, 0, 0), 201 - 7);
        for (int k : new int[] {-1, MIN, MAX}) {
            refused(line, "where, set " + k, INDEX, () -> line.where(k, 0, 0, 0));
            refused(line, "where, function " + k, INDEX, () -> line.where(0, k, 0, 0));
        }
        refused(line, "where, set 8", INDEX, () -> line.where(8, 0, 0, 0));
        refused(line, "where, function 5", INDEX, () -> line.where(0, 5, 0, 0));
    }

    private static void promise18OfFunction() {
        PuddingstoneLine line = new PuddingstoneLine();
        Lines.valued(line, 0, 0, -4, 7, -5, 7, 3, 3);
        Lines.valued(line, 0, 199, 7, -5);
        line.raise(1, 0, 100, 3, 1000);
        line.raise(2, 0, 100, 3, -1000);
        line.raise(3, 100, 100, 3, 1);
        int[][] due = {{8, -5, 7, 1, 7 + 7 + 3 + 7}, {1, 1000, 1000, 0, 100000}, {1, -1000, -1000, 0, -100000},
            {2, 0, 1, 200, 0}, {1, 0, 0, 0, 0}};
        PuddingstoneLine ends = new PuddingstoneLine();
        int[][] raised = {{0, 5}, {0, -5}, {100, 5}, {100, -5}};
        for (int k = 0; k < 4; k++) {
            ends.raise(k, raised[k][0], raised[k][0], 3, raised[k][1]);
            same("least with " + raised[k][1], ends.ofFunction(k, 1), Math.min(0, raised[k][1]));
            same("greatest with " + raised[k][1], ends.ofFunction(k, 2), Math.max(0, raised[k][1]));
        }
        for (int function = 0; function < 5; function++) {
            for (int what = 0; what <= 4; what++) {
                same("ofFunction(" + function + ", " + what + ")", line.ofFunction(function, what),
                    due[function][what]);
            }
        }
        for (int function : new int[] {-1, 5, MIN, MAX}) {
            refused(line, "ofFunction, function " + function, INDEX, () -> line.ofFunction(function, 0));
            refused(line, "ofFunction, both wrong, " + function, INDEX, () -> line.ofFunction(function, 5));
        }
        for (int what : new int[] {-1, 5, MIN, MAX}) {
            refused(line, "ofFunction, what " + what, ARGUMENT, () -> line.ofFunction(0, what));
        }
    }

    private static void promise19Value() {
        PuddingstoneLine line = new PuddingstoneLine();
        Lines.valued(line, 4, 0, 1, 2, 3);
        Lines.valued(line, 4, 199, 4, 5);
        same("values", Lines.values(line, 4, 0, 3) + " " + Lines.values(line, 4, 198, 200), "1 2 3 0 0 4 5");
        for (int k : new int[] {-1, MIN, MAX}) {
            refused(line, "value, function " + k, INDEX, () -> line.value(k, 0));
            refused(line, "value, grain " + k, INDEX, () -> line.value(0, k));
        }
        refused(line, "value, function 5", INDEX, () -> line.value(5, 0));
        refused(line, "value, grain 201", INDEX, () -> line.value(0, 201));
    }

    private static PuddingstoneLine sloped() {
        PuddingstoneLine line = Lines.with("[10,13]", "[10,10] [12,12]", "", "(10,11) (12,13)", "[0,100]");
        Lines.valued(line, 0, 18, 100, 100, 30, 1, 40, -9, 50, 2, 60, 100);
        return line;
    }

    private static void promise20Area() {
        PuddingstoneLine line = sloped();
        int[] due = {1 - 9 + 2, 0, 0, 3, 100 + 1 - 9 + 2 + 100};
        for (int set = 0; set < due.length; set++) {
            same("area(0, " + set + ")", line.area(0, set), due[set]);
        }
        line.set(1, 4, -10000);
        same("the least area", line.area(1, 4), -1000000);
        refusedOfFunctionAndSet(line, "area", (function, set) -> line.area(function, set));
    }

    private static void refusedOfFunctionAndSet(PuddingstoneLine line, String name, OfTwo call) {
        for (int k : new int[] {-1, MIN, MAX}) {
            refused(line, name + ", function " + k, INDEX, () -> call.run(k, 0));
            refused(line, name + ", set " + k, INDEX, () -> call.run(0, k));
        }
        refused(line, name + ", function 5", INDEX, () -> call.run(5, 0));
        refused(line, name + ", set 8", INDEX, () -> call.run(0, 8));
    }

    private static void promise21Mean() {
        PuddingstoneLine line = sloped();
        double[] due = {-2.0, 0.0, 0.0, 1.5, 1.94};
        for (int set = 0; set < due.length; set++) {
            same("mean(0, " + set + ")", line.mean(0, set), due[set]);
        }
        line.span(5, 9, 12, 0, true);
        same("mean, a third", line.mean(0, 5), 92 / 3.0);
        line.set(1, 1, -5);
        same("mean of nothing, not below 0", line.mean(1, 2), 0.0);
        same("mean 0, not below 0", line.mean(1, 0), 0.0);
        refusedOfFunctionAndSet(line, "mean", (function, set) -> line.mean(function, set));
    }

    private static void promise22Thicker() {
        PuddingstoneLine line = Lines.with("[10,20]", "[15,30]", "[20,20]", "", "", "", "", "[0,100]");
        int[][] due = {{7, 1, 41}, {7, 2, 11}, {7, 3, 1}, {7, 4, 0}, {7, 0, 201}, {7, -5, 201}, {7, MIN, 201},
            {7, MAX, 0}, {0, 0, 201}, {0, 1, 0}, {255, 1, 201}, {255, 4, 1}, {128, 1, 201}, {2, 1, 31}, {5, 2, 1}};
        for (int[] d : due) {
            same("thicker(" + d[0] + ", " + d[1] + ")", line.thicker(d[0], d[1]), d[2]);
        }
        refusedOfFamily(line, "thicker", family -> line.thicker(family, 1));
    }

    private interface OfOne {
        Object run(int one);
    }

    private static void refusedOfFamily(PuddingstoneLine line, String name, OfOne call) {
        for (int family : new int[] {-1, 256, MIN, MAX}) {
            refused(line, name + ", family " + family, ARGUMENT, () -> call.run(family));
        }
    }

    private static void refusedOfFamilyAndSet(PuddingstoneLine line, String name, OfTwo call) {
        refusedOfFamily(line, name, family -> call.run(family, 0));
        for (int set : new int[] {-1, 8, MIN, MAX}) {
            refused(line, name + ", set " + set, INDEX, () -> call.run(1, set));
            refused(line, name + ", both wrong, set " + set, INDEX, () -> call.run(256, set));
        }
    }

    // 0 is to be covered by 1 to 3; 4 has holes that no SPAN need fill; 5 has nothing; 6 is 2 once more.
    private static PuddingstoneLine covered() {
        return Lines.with("[10,50]", "[10,20) [30,40]", "(15,30) [50,60]", "[0,20] [35,50)", "[0,5] [12,13] (40,45)", "",
            "(15,30) [50,60]");
    }

    private static void promise23Cover() {
        PuddingstoneLine line = covered();
        int[][] due = {{14, 0, 5}, {2, 0, -1}, {6, 0, -1}, {1, 0, 1}, {255, 0, 1}, {8, 4, 2}, {14, 4, 2}, {0, 5, 0},
            {255, 5, 0}, {0, 0, -1}, {255, 3, 2}, {254, 0, 5}, {1, 4, -1}, {16, 4, 3}, {9, 4, 2}};
        for (int[] d : due) {
            same("cover(" + d[0] + ", " + d[1] + ")", line.cover(d[0], d[1]), d[2]);
        }
        line.span(7, 100, 100, 3, true);
        same("cover of the right end", line.cover(128, 7), 1);
        PuddingstoneLine ends = Lines.with("[0,0] [100,100]", "[0,10] [90,100]", "[95,100]");
        same("cover of both ends", ends.cover(2, 0), 2);
        same("no cover of both ends", ends.cover(4, 0), -1);
        same("cover up to the end", ends.cover(2, 2), 1);
        same("no cover of the left end", ends.cover(128, 0), -1);
        same("no cover of the right end", line.cover(127, 7), -1);
        refusedOfFamilyAndSet(line, "cover", (family, set) -> line.cover(family, set));
    }

    private static void promise24Covers() {
        PuddingstoneLine line = covered();
        int[] due = {3, 2, 1, 3, 2};
        for (int k = 0; k < due.length; k++) {
            same("covers(254, 0, " + k + ")", line.covers(254, 0, k), due[k]);
        }
        same("the smallest number of several", line.covers(68, 2, 0), 2);
        same("the smallest number, last place", line.covers(68, 2, 1), 2);
        same("the other one alone", line.covers(64, 2, 1), 6);
        same("the farthest before the smallest", line.covers(10, 3, 1), 3);
        same("one of all", line.covers(255, 4, 1), 0);
        for (int k : new int[] {-1, 5, MIN, MAX}) {
            refused(line, "covers, k " + k, INDEX, () -> line.covers(254, 0, k));
            refused(line, "covers without a COVER, k " + k, INDEX, () -> line.covers(2, 0, k));
            refused(line, "covers, family and k " + k, ARGUMENT, () -> line.covers(256, 0, k));
        }
        refused(line, "covers without a COVER, k 0", INDEX, () -> line.covers(2, 0, 0));
        refused(line, "covers, not the first place", INDEX, () -> line.covers(6, 0, 0));
        refused(line, "covers of nothing", INDEX, () -> line.covers(255, 5, 0));
        refusedOfFamilyAndSet(line, "covers", (family, set) -> line.covers(family, set, 0));
    }

    private static void pinned(int due, String... sets) {
        PuddingstoneLine line = Lines.with(sets);
        String name = " of " + String.join(" | ", sets);
        same("apart" + name, line.apart(255), due);
        same("pins" + name, line.pins(255), due);
    }

    private static void promises25And26ApartAndPins() {
        pinned(0, "");
        pinned(1, "[0,100]");
        pinned(1, "[10,20]", "[20,30]");
        pinned(2, "[10,20)", "[20,30]");
        pinned(2, "[10,20)", "(20,30]", "[15,25]");
        pinned(1, "[10,20]", "[10,20]", "[10,20]");
        pinned(1, "(10,11)", "[10,11]", "[5,11)");
        pinned(3, "[10,20] [30,40] [50,60]", "[15,35] [36,55]");
        pinned(4, "[0,0] [2,2] [4,4]", "[0,4]", "(98,100]");
        pinned(2, "[0,50]", "[10,12]", "[49,60]");
        pinned(2, "[0,90]", "[10,20]", "[30,40]", "[15,85]");
        pinned(1, "[0,0]", "[0,1]", "[0,100]");
        pinned(1, "[100,100]", "[99,100]", "[0,100]");
        pinned(2, "[10,12)", "", "", "", "", "", "", "(12,14)");
        PuddingstoneLine line = Lines.with("[10,20] [40,50]", "[30,35]", "[0,100]");
        int[][] due = {{0, 0}, {1, 2}, {2, 1}, {3, 3}, {4, 1}, {7, 3}, {5, 2}, {248, 0}};
        for (int[] d : due) {
            same("apart(" + d[0] + ")", line.apart(d[0]), d[1]);
            same("pins(" + d[0] + ")", line.pins(d[0]), d[1]);
        }
        refusedOfFamily(line, "apart", family -> line.apart(family));
        refusedOfFamily(line, "pins", family -> line.pins(family));
    }

    private static void promise27MeetWith() {
        PuddingstoneLine line = Lines.with("[10,20]", "[25,40]", "[0,100]", "[20,20]");
        int[][] due = {{0, 0, 1, 0}, {0, 10, 1, 5}, {0, 5, 1, 0}, {0, 6, 1, 1}, {0, 20, 1, 10}, {1, -10, 0, 5},
            {0, 0, 0, 10}, {0, 3, 0, 7}, {0, -3, 0, 7}, {2, 30, 2, 70}, {2, -100, 2, 0}, {2, 100, 2, 0},
            {2, -99, 2, 1}, {0, -15, 2, 5}, {0, 85, 2, 5}, {3, 0, 3, 0}, {4, 0, 2, 0}};
        for (int[] d : due) {
            long before = line.digest();
            same("meetWith(" + d[0] + ", " + d[1] + ", " + d[2] + ")", line.meetWith(d[0], d[1], d[2]), d[3]);
            same("meetWith changes nothing", line.digest(), before);
        }
        for (int by : new int[] {-101, 101, MIN, MAX}) {
            refused(line, "meetWith by " + by, ARGUMENT, () -> line.meetWith(0, by, 1));
        }
        refusedOfTwoSets(line, "meetWith", (one, other) -> line.meetWith(one, 1, other));
        refusedOfTwoSets(line, "meetWith, all wrong", (one, other) -> line.meetWith(one, 101, other));
    }

    private static void promise28Clear() {
        PuddingstoneLine line = Lines.with("[10,20]", "[15,40]", "[0,100]", "[18,22]", "(30,40)", "[0,9] (61,100]", "",
            "[50,50]");
        int[][] due = {{0, 1, -6}, {1, 0, 6}, {0, 4, 0}, {2, 0, 1000}, {0, 2, 1000}, {3, 0, 3}, {4, 4, -10},
            {3, 3, -5}, {0, 0, 11}, {6, 2, 0}, {2, 6, 0}, {6, 6, 0}, {4, 5, 0}, {5, 5, 1000}, {7, 7, -1}, {2, 2, 1000},
            {1, 5, 0}};
        for (int[] d : due) {
            long before = line.digest();
            same("clear(" + d[0] + ", " + d[1] + ")", line.clear(d[0], d[1]), d[2]);
            same("clear changes nothing", line.digest(), before);
        }
        PuddingstoneLine ends = Lines.with("[0,0]", "[0,99]", "[100,100]", "[1,100]", "[0,100)", "(0,100]");
        same("to the right end", ends.clear(0, 1), 100);
        same("to the left end", ends.clear(2, 3), -100);
        same("the right end is free", ends.clear(2, 4), 0);
        same("nowhere", ends.clear(1, 5), 1000);
        PuddingstoneLine open = Lines.with("(99,100)", "(98,100)", "(0,1)", "(0,2)");
        same("not over the right end", open.clear(0, 1), -2);
        same("not over the left end", open.clear(2, 3), 2);
        refusedOfTwoSets(line, "clear", (one, other) -> line.clear(one, other));
    }

    private static void promise29Best() {
        PuddingstoneLine line = sloped();
        line.raise(1, 40, 42, 0, 10);
        line.raise(1, 44, 46, 0, 10);
        line.raise(2, 0, 99, 0, -5);
        line.raise(3, 20, 20, 3, 1000);
        line.raise(4, 1, 3, 3, 9);
        int[][] due = {{0, 1, 9}, {0, 2, 12}, {0, 3, 12}, {0, 4, 12}, {0, 5, 9}, {0, 6, 8}, {0, 100, 0}, {0, 91, 0}, {0, 99, 0},
            {1, 2, 40}, {1, 1, 40}, {1, 3, 39}, {1, 5, 40}, {1, 6, 40}, {1, 7, 39}, {2, 1, 99}, {2, 2, 98},
            {2, 100, 0}, {3, 1, 0}, {3, 50, 0}, {4, 1, 1}, {4, 2, 1}, {4, 3, 0}};
        for (int[] d : due) {
            long before = line.digest();
            same("best(" + d[0] + ", " + d[1] + ")", line.best(d[0], d[1]), d[2]);
            same("best changes nothing", line.digest(), before);
        }
        for (int function : new int[] {-1, 5, MIN, MAX}) {
            refused(line, "best, function " + function, INDEX, () -> line.best(function, 1));
            refused(line, "best, both wrong, " + function, INDEX, () -> line.best(function, 0));
        }
        for (int n : new int[] {0, 101, -1, MIN, MAX}) {
            refused(line, "best, n " + n, ARGUMENT, () -> line.best(0, n));
        }
    }

    private static void promise30Saves() {
        PuddingstoneLine line = covered();
        int[][] due = {{14, 0, 0, 4}, {14, 0, 4, 0}, {14, 0, 1, 0}, {12, 0, 1, 1000}, {0, 0, 1, -1}, {0, 0, 0, 1000},
            {0, 5, 0, 0}, {1, 0, 3, 0}, {16, 4, 3, 1}, {255, 0, 0, 0}, {12, 0, 5, -1}};
        for (int[] d : due) {
            long before = line.digest();
            same("saves(" + d[0] + ", " + d[1] + ", " + d[2] + ")", line.saves(d[0], d[1], d[2]), d[3]);
            same("saves changes nothing", line.digest(), before);
        }
        refusedOfTwoSets(line, "saves", (set, added) -> line.saves(1, set, added));
        refusedOfTwoSets(line, "saves, all wrong", (set, added) -> line.saves(256, set, added));
        refusedOfFamily(line, "saves", family -> line.saves(family, 0, 1));
    }

    private static PuddingstoneLine digested() {
        PuddingstoneLine line = covered();
        Lines.valued(line, 3, 17, -1000, 1000, 3);
        line.raise(4, 0, 100, 3, 1000);
        return line;
    }

    // The row by the calls that the document names; on several objects, for one is used for 512 calls.
    private static long digestByCalls() {
        long d = 965;
        for (int set = 0; set < 8; set++) {
            PuddingstoneLine line = digested();
            for (int what = 0; what <= 5; what++) {
                d = d * 31 + line.ofSet(set, what);
            }
            for (int span = 0; span < line.ofSet(set, 1); span++) {
                d = ((d * 31 + line.ofSpan(set, span, 0)) * 31 + line.ofSpan(set, span, 1)) * 31
                    + line.ofSpan(set, span, 2);
            }
        }
        for (int function = 0; function < 5; function++) {
            PuddingstoneLine line = digested();
            for (int what = 0; what <= 4; what++) {
                d = d * 31 + line.ofFunction(function, what);
            }
            for (int grain = 0; grain <= 200; grain++) {
                d = d * 31 + line.value(function, grain);
            }
        }
        PuddingstoneLine line = digested();
        d = (d * 31 + line.thicker(255, 1)) * 31 + line.thicker(255, 2);
        d = (d * 31 + line.apart(255)) * 31 + line.pins(255);
        for (int set = 0; set < 8; set++) {
            d = d * 31 + line.cover(255 - (1 << set), set);
        }
        return d;
    }

    private static void promise31Digest() {
        same("digest of a new object", new PuddingstoneLine().digest(), 4901070888546037432L);
        PuddingstoneLine line = digested();
        long digest = line.digest();
        same("digest once more", line.digest(), digest);
        same("digest by calls", digest, digestByCalls());
        PuddingstoneLine whole = new PuddingstoneLine();
        whole.change(0, 0);
        whole.span(1, 100, 100, 0, true);
        whole.move(0, 100);
        same("digest of the document's test", whole.digest(), 5038688502915428338L);
    }

    public static void main(String[] args) {
        face();
        promise1NewObject();
        promise2Span();
        promise3Join();
        promise4Change();
        promise5Move();
        promise6Stretch();
        promise7OfSet();
        promise8OfSpan();
        promise9Has();
        promise10Far();
        promise11Beside();
        promise12Raise();
        promise13Set();
        promise14Mix();
        promise15Turn();
        promise16Thick();
        promise17Where();
        promise18OfFunction();
        promise19Value();
        promise20Area();
        promise21Mean();
        promise22Thicker();
        promise23Cover();
        promise24Covers();
        promises25And26ApartAndPins();
        promise27MeetWith();
        promise28Clear();
        promise29Best();
        promise30Saves();
        promise31Digest();
        checks.end("PuddingstoneLineTest");
    }
}
