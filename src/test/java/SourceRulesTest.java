import java.io.IOException;
import java.lang.reflect.Constructor;
import java.lang.reflect.Field;
import java.lang.reflect.Method;
import java.lang.reflect.Modifier;
import java.nio.charset.StandardCharsets;
import java.nio.file.Files;
import java.nio.file.Path;
import java.util.ArrayList;
import java.util.Arrays;
import java.util.HashSet;
import java.util.List;
import java.util.Map;
import java.util.Set;
import java.util.TreeMap;
import java.util.TreeSet;
import java.util.regex.Matcher;
import java.util.regex.Pattern;

/** What of ../shared/LANGUAGE.md can be seen in the class and in its text; runs from the project's folder. */
public final class SourceRulesTest {
    private static final String[] FORBIDDEN = {"package", "import", "->", "::", "try", "catch", "finally",
        "synchronized", "assert", "native", "protected", "instanceof", "strictfp", "volatile", "transient", "var",
        "float", "java.", "while (true", "for (;;", "+ \"\"", "\"\" +"};
    private static final Set<String> NAMED_EXCEPTIONS =
        Set.of("IndexOutOfBoundsException", "IllegalArgumentException");
    private static final Set<String> MATH = Set.of("max", "min");
    private static final Set<Class<?>> CONSTANTS = Set.of(int.class, long.class, boolean.class, char.class, String.class);
    private static final Set<Class<?>> PLAIN = Set.of(void.class, int.class, long.class, boolean.class, double.class,
        int[].class, boolean[].class);

    private static final Checks checks = new Checks();

    /** A method or constructor of the text: how many lines it has, and what it calls. */
    private static final class Part {
        final String body;
        final int lines;
        final Set<String> calls = new TreeSet<>();

        Part(String body) {
            this.body = body;
            this.lines = body.split("\n").length;
            calls.addAll(found("\\b(\\w+)\\(", body));
        }
    }

    private static List<String> found(String pattern, String text) {
        List<String> found = new ArrayList<>();
        Matcher matcher = Pattern.compile(pattern).matcher(text);
        while (matcher.find()) {
            found.add(matcher.group(1));
        }
        return found;
    }

    private static boolean isFound(String code, String word) {
        String before = Character.isLetter(word.charAt(0)) ? "\\b" : "";
        String behind = Character.isLetter(word.charAt(word.length() - 1)) ? "\\b" : "";
        return Pattern.compile(before + Pattern.quote(word) + behind).matcher(code).find();
    }

    // Comments and texts away, so that only code is looked at.
    private static String codeOf(String source) {
        return source.replaceAll("(?s)/\\*.*?\\*/", "").replaceAll("//[^\\n]*", "").replaceAll("\"[^\"\\n]*\"", "\"\"");
    }

    private static int endOfBlock(String code, int open) {
        int depth = 0;
        for (int k = open; k < code.length(); k++) {
            depth += code.charAt(k) == '{' ? 1 : code.charAt(k) == '}' ? -1 : 0;
            if (depth == 0) {
                return k;
            }
        }
        return code.length() - 1;
    }

    // By name: methods of one name in two classes count as one part each, found under both.
    private static Map<String, List<Part>> partsOf(String code) {
        Map<String, List<Part>> parts = new TreeMap<>();
        Pattern header = Pattern.compile("(?m)^ {4}(?: {4})?[A-Za-z][\\w \\[\\]]*?\\b(\\w+)\\([\\w\\[\\], ]*\\)\\s*"
            + "(?:throws [\\w, ]+)?\\{");
        Matcher matcher = header.matcher(code);
        while (matcher.find()) {
            if (!Set.of("if", "for", "while", "switch").contains(matcher.group(1))) {
                String body = code.substring(matcher.start(), endOfBlock(code, matcher.end() - 1) + 1);
                parts.computeIfAbsent(matcher.group(1), name -> new ArrayList<>())
                    .add(new Part(body.substring(body.indexOf('{'))));
            }
        }
        return parts;
    }

    // How many calls stand open at once below this one, itself counted; more than the rule has if one comes again.
    private static int depthOf(String name, Map<String, List<Part>> parts, Set<String> open) {
        if (!parts.containsKey(name)) {
            return 0;
        }
        if (!open.add(name)) {
            return 100;
        }
        int deepest = 0;
        for (Part part : parts.get(name)) {
            for (String called : part.calls) {
                deepest = Math.max(deepest, depthOf(called, parts, open));
            }
        }
        open.remove(name);
        return deepest + 1;
    }

    private static void words(String source, String code) {
        checks.same("signs are 1 to 127", source.chars().allMatch(sign -> sign >= 1 && sign <= 127), true);
        for (String word : FORBIDDEN) {
            checks.same(word + " is in the code", isFound(code, word), false);
        }
        Set<String> allowed = new HashSet<>(NAMED_EXCEPTIONS);
        allowed.addAll(Set.of("PuddingstoneLine", "Math"));
        allowed.addAll(found("\\bclass (\\w+)", code));
        for (String name : new TreeSet<>(found("\\b([A-Z]\\w*[a-z]\\w*)\\b", code))) {
            checks.same("the library has " + name, allowed.contains(name), true);
        }
        for (String name : found("\\bMath\\.(\\w+)", code)) {
            checks.same("Math." + name + " may be used", MATH.contains(name), true);
        }
    }

    private static void parts(String code) {
        Map<String, List<Part>> parts = partsOf(code);
        int methods = PuddingstoneLine.class.getDeclaredMethods().length + 1;
        for (Class<?> inner : PuddingstoneLine.class.getDeclaredClasses()) {
            methods += inner.getDeclaredMethods().length;
        }
        checks.same("all methods are looked at", parts.values().stream().mapToInt(List::size).sum(), methods);
        for (Map.Entry<String, List<Part>> entry : parts.entrySet()) {
            for (Part part : entry.getValue()) {
                checks.same(entry.getKey() + " is short", part.lines <= 60, true);
                boolean isMaker = entry.getKey().equals("PuddingstoneLine");
                int made = found("\\b(new)\\b", part.body).size();
                int thrown = found("\\bthrow (new) ", part.body).size();
                checks.same(entry.getKey() + " makes only what it throws", isMaker || made == thrown, true);
                checks.same(entry.getKey() + " throws what is made there", found("\\b(throw)\\b", part.body).size(), thrown);
                checks.same("a constructor throws", isMaker && thrown != 0, false);
                for (String name : found("\\bnew (\\w+)\\(", isMaker ? "" : part.body)) {
                    checks.same(name + " is named by the document", NAMED_EXCEPTIONS.contains(name), true);
                }
            }
            int depth = depthOf(entry.getKey(), parts, new HashSet<>());
            checks.same(entry.getKey() + " calls at most eight deep, and never itself", depth <= 8, true);
        }
    }

    private static void fields(Class<?> owner, Set<Class<?>> plain) {
        int own = 0;
        for (Field field : owner.getDeclaredFields()) {
            if (Modifier.isStatic(field.getModifiers())) {
                boolean isConstant = Modifier.isFinal(field.getModifiers()) && CONSTANTS.contains(field.getType());
                checks.same(field + " is a constant", isConstant, true);
            } else {
                own++;
                checks.same(field + " may have its type", plain.contains(field.getType()), true);
            }
        }
        checks.same(owner + " has few fields", own <= 20, true);
    }

    private static void members(Class<?> owner, Set<Class<?>> plain) {
        for (Method method : owner.getDeclaredMethods()) {
            List<Class<?>> types = new ArrayList<>(Arrays.asList(method.getParameterTypes()));
            checks.same(method + " takes at most seven", types.size() <= 7, true);
            types.add(method.getReturnType());
            checks.same(method + " may have its types", plain.containsAll(types), true);
            checks.same(method + " is made by the compiler", method.isSynthetic(), false);
        }
        for (Constructor<?> constructor : owner.getDeclaredConstructors()) {
            checks.same(constructor + " takes nothing", constructor.getParameterCount(), 0);
        }
    }

    private static void classes() {
        Class<?>[] inner = PuddingstoneLine.class.getDeclaredClasses();
        checks.same("there are few classes", inner.length + 1 <= 12, true);
        Set<Class<?>> plain = new HashSet<>(PLAIN);
        for (Class<?> one : inner) {
            plain.add(one);
            plain.add(one.arrayType());
        }
        for (Class<?> one : inner) {
            int modifiers = one.getModifiers();
            checks.same(one + " is static", Modifier.isStatic(modifiers), true);
            checks.same(one + " is hidden", Modifier.isPublic(modifiers) || Modifier.isProtected(modifiers), false);
            checks.same(one + " has classes inside", one.getDeclaredClasses().length, 0);
            fields(one, plain);
            members(one, plain);
        }
        fields(PuddingstoneLine.class, plain);
        members(PuddingstoneLine.class, plain);
        checks.same("what the class extends", PuddingstoneLine.class.getSuperclass(), Object.class);
        checks.same("what the class implements", PuddingstoneLine.class.getInterfaces().length, 0);
    }

    public static void main(String[] args) throws IOException {
        String source = Files.readString(Path.of("src/main/java/PuddingstoneLine.java"), StandardCharsets.UTF_8);
        String code = codeOf(source);
        words(source, code);
        parts(code);
        classes();
        checks.end("SourceRulesTest");
    }
}
