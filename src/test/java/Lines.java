/** Objects for the tests, and what they hold as text. */
final class Lines {
    /** A call of one method, with its arguments in their order (a boolean counts 1 or 0). */
    interface Method {
        Object call(PuddingstoneLine line, int[] a);
    }

    private Lines() {
    }

    /** The SPANS of a SET as text, such as "[10,20] (30,40)". */
    static String spans(PuddingstoneLine line, int set) {
        StringBuilder text = new StringBuilder();
        int count = line.ofSet(set, 1);
        for (int k = 0; k < count; k++) {
            int ends = line.ofSpan(set, k, 2);
            text.append(k == 0 ? "" : " ").append((ends & 1) != 0 ? "[" : "(").append(line.ofSpan(set, k, 0));
            text.append(",").append(line.ofSpan(set, k, 1)).append((ends & 2) != 0 ? "]" : ")");
        }
        return text.toString();
    }

    /** Puts in SPANS that are written as spans() writes them. */
    static PuddingstoneLine put(PuddingstoneLine line, int set, String spans) {
        for (String span : spans.split(" ")) {
            String[] numbers = span.substring(1, span.length() - 1).split(",");
            int ends = (span.startsWith("[") ? 1 : 0) + (span.endsWith("]") ? 2 : 0);
            line.span(set, Integer.parseInt(numbers[0]), Integer.parseInt(numbers[1]), ends, true);
        }
        return line;
    }

    /** A new object with these SETS, from 0 on; "" is one without GRAINS. */
    static PuddingstoneLine with(String... spans) {
        PuddingstoneLine line = new PuddingstoneLine();
        for (int set = 0; set < spans.length; set++) {
            if (!spans[set].isEmpty()) {
                put(line, set, spans[set]);
            }
        }
        return line;
    }

    /** The VALUES of the GRAINS from first to last, as text. */
    static String values(PuddingstoneLine line, int function, int first, int last) {
        StringBuilder text = new StringBuilder();
        for (int grain = first; grain <= last; grain++) {
            text.append(grain == first ? "" : " ").append(line.value(function, grain));
        }
        return text.toString();
    }

    /** A FUNCTION with VALUES of one GRAIN each, from a first GRAIN on. */
    static PuddingstoneLine valued(PuddingstoneLine line, int function, int first, int... values) {
        for (int k = 0; k < values.length; k++) {
            int grain = first + k;
            int a = grain / 2;
            line.raise(function, a, a + grain % 2, 0, values[k]);
        }
        return line;
    }

    /** All SETS full, the FUNCTIONS at their limits: 10000 with even numbers, -10000 with odd ones. */
    static PuddingstoneLine full() {
        PuddingstoneLine line = new PuddingstoneLine();
        for (int set = 0; set < 8; set++) {
            line.span(set, 0, 100, 3, true);
        }
        for (int function = 0; function < 5; function++) {
            line.set(function, 0, function % 2 == 0 ? 10000 : -10000);
        }
        return line;
    }

    /** SETS with something and without, at the ends of the LINE too; SET 2 covers 0, SET 7 is in no other one. */
    static PuddingstoneLine mixed() {
        PuddingstoneLine line = with("[0,10] (20,30) [99,100]", "(0,5) [50,50]", "[0,25] [20,40) (98,100]", "",
            "[5,5] [7,7] (9,10)", "(60,61] (61,70]", "(0,100)", "[0,0] [55,56) [100,100]");
        valued(line, 0, 0, 5, -3, 700, 700, -9);
        valued(line, 0, 197, 1, -1000, 1000, -77);
        line.set(1, 0, 10000);
        line.set(1, 4, -10000);
        line.raise(2, 0, 100, 0, 333);
        line.thick(3, 255);
        return line;
    }
}
