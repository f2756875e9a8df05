import java.io.IOException;
import java.lang.reflect.Field;
import java.lang.reflect.Modifier;
import java.nio.file.Files;
import java.nio.file.Path;
import java.util.ArrayList;
import java.util.HashMap;
import java.util.List;
import java.util.Map;
import java.util.Set;
import java.util.TreeSet;

/** The class keeps to the rules of LANGUAGE.md, as far as they can be read from its text; FaceTest has rule 1. */
public final class LanguageTest {
    private static final Set<String> EXCEPTIONS = Set.of("IllegalStateException", "IllegalArgumentException",
            "IndexOutOfBoundsException");
    private static final Set<String> LIBRARY = Set.of("Math", "Integer");
    private static final Set<String> FUNCTIONS = Set.of("Math.abs", "Math.max", "Math.min", "Math.floorDiv",
            "Math.floorMod", "Integer.bitCount");
    private static final Set<String> REFUSED_WORDS = Set.of("import", "package", "synchronized", "assert", "finally", "try",
            "catch", "instanceof", "interface", "record", "enum", "while", "do", "volatile", "transient", "native", "var",
            "float", "yield", "super", "extends", "implements");

    private LanguageTest() {
    }

    public static void main(String[] arguments) throws IOException {
        Source source = new Source(Files.readString(Path.of("src/main/java/FlashRatchet.java")));
        Check.about("rules 2, 3, 4 and 13", () -> words(source));
        Check.about("rule 3, doubles", () -> doubles(source));
        Check.about("rule 5", LanguageTest::staticFields);
        Check.about("rule 6", () -> exceptions(source));
        Check.about("rule 7, indexes", () -> indexes(source));
        Check.about("rule 7, divisors", () -> divisors(source));
        Check.about("rules 8 and 11, calls", () -> calls(source));
        Check.about("rule 9", () -> loops(source));
        Check.about("rule 10", () -> joins(source));
        Check.about("rule 11, sizes", () -> sizes(source));
        Check.about("rule 12", () -> objects(source));
        Check.end();
    }

    /** A name of a type is one of the class's own or of the few of the library that it uses. */
    private static void words(Source source) {
        for (String word : source.words()) {
            boolean isType = word.matches("[A-Z]\\w*[a-z]\\w*");
            Check.dueThat("the type " + word, !isType || source.classes.contains(word) || LIBRARY.contains(word)
                    || EXCEPTIONS.contains(word));
            Check.dueThat("the word " + word, !REFUSED_WORDS.contains(word));
        }
        for (String function : Source.found("\\b((?:Math|Integer)\\.\\w+)", source.plain)) {
            Check.dueThat("the function " + function, FUNCTIONS.contains(function));
        }
        Check.dueThat("a lambda or a method reference", !source.plain.contains("->") && !source.plain.contains("::"));
    }

    private static void doubles(Source source) {
        for (Source.Method method : source.methods) {
            boolean mayUse = method.title().equals("FlashRatchet.meanGain");
            Check.dueThat(method.title() + " uses doubles", mayUse || !method.body.matches("(?s).*(\\bdouble\\b|\\d\\.\\d).*"));
        }
    }

    private static void staticFields() {
        List<Class<?>> classes = new ArrayList<>(List.of(FlashRatchet.class.getDeclaredClasses()));
        classes.add(FlashRatchet.class);
        for (Class<?> each : classes) {
            for (Field field : each.getDeclaredFields()) {
                boolean isConstant = Modifier.isFinal(field.getModifiers())
                        && (field.getType() == int.class || field.getType() == long.class);
                Check.dueThat("static " + field, !Modifier.isStatic(field.getModifiers()) || field.isSynthetic() || isConstant);
                boolean isHidden = Modifier.isPrivate(field.getModifiers()) || field.getName().equals("NONE");
                Check.dueThat("field " + field, isHidden || field.isSynthetic());
            }
        }
    }

    /** A method of the face throws what it declares, with a written text, and no other method throws. */
    private static void exceptions(Source source) {
        for (Source.Method method : source.methods) {
            Set<String> declared = new TreeSet<>();
            for (String name : method.declared.split(", *")) {
                if (!name.isEmpty()) {
                    declared.add(name);
                }
            }
            Set<String> thrown = new TreeSet<>(Source.found("throw new (\\w+)\\(\"\"\\);", method.body));
            Check.due(method.title() + ", throws", Source.found("\\b(throw)\\b", method.body).size(),
                    Source.found("throw new (\\w+)\\(\"\"\\);", method.body).size());
            Check.dueThat(method.title() + " throws " + thrown, thrown.equals(declared) && EXCEPTIONS.containsAll(thrown));
            boolean mayThrow = method.owner.equals("FlashRatchet") && method.isOpen && !method.isConstructor();
            Check.dueThat(method.title() + " throws", thrown.isEmpty() || mayThrow);
        }
    }

    /** Arrays stand in Row alone; each index there is looked at in the same statement or by the loop around it. */
    private static void indexes(Source source) {
        for (Source.Method method : source.methods) {
            int indexes = Source.found("(\\[)", method.body).size();
            Check.dueThat(method.title() + " uses an array", indexes == 0 || method.owner.equals("Row"));
            if (indexes > 0 && !method.isConstructor()) {
                boolean isGuarded = method.body.contains("index >= 0 && index < cells.length")
                        || method.body.contains("for (int index = 0; index < cells.length; index++)");
                Check.dueThat(method.title() + " looks at its index", isGuarded);
                Check.due(method.title() + ", other indexes", Source.found("(\\[)(?!index\\])", method.body).size(), 0);
            }
        }
    }

    /** A divisor is a constant above 0, or is compared with 0 before. */
    private static void divisors(Source source) {
        Map<String, String> guards = Map.of("divisor", "divisor <= 0", "smaller", "smaller > 0",
                "present.ticks", "present.ticks > 0");
        for (Source.Method method : source.methods) {
            for (String divisor : Source.found("[/%] *([\\w.]+)", method.body)) {
                boolean isConstant = divisor.equals("SEEDS") || divisor.equals("SEEDS_OF_DRAW");
                boolean isGuarded = guards.containsKey(divisor) && method.body.contains(guards.get(divisor));
                Check.dueThat(method.title() + " divides by " + divisor, isConstant || isGuarded);
            }
            for (String divisor : Source.found("Math\\.floor(?:Div|Mod)\\(\\w+, (\\w+)\\)", method.body)) {
                Check.dueThat(method.title() + " divides by " + divisor, method.body.contains(divisor + " > 0"));
            }
        }
    }

    private static void calls(Source source) {
        Map<String, Set<String>> calls = new HashMap<>();
        for (Source.Method method : source.methods) {
            Check.dueThat("two methods are called " + method.title(), !calls.containsKey(method.title()));
            calls.put(method.title(), source.calledBy(method));
        }
        Set<String> reached = new TreeSet<>();
        for (Source.Method method : source.methods) {
            if (method.owner.equals("FlashRatchet") && method.isOpen) {
                int depth = depth(calls, method.title(), 1, reached);
                Check.dueThat(method.title() + " goes " + depth + " deep", depth <= 8);
            }
        }
        Check.dueThat("found only calls of " + reached, reached.equals(calls.keySet()));
    }

    /** A method that called itself would never end here, so that a depth beyond all that are allowed is an end too. */
    private static int depth(Map<String, Set<String>> calls, String title, int above, Set<String> reached) {
        reached.add(title);
        int deepest = above;
        if (above > 20) {
            return above;
        }
        for (String called : calls.get(title)) {
            deepest = Math.max(deepest, depth(calls, called, above + 1, reached));
        }
        return deepest;
    }

    /** All loops are for loops with a counter that nothing in the loop sets. */
    private static void loops(Source source) {
        for (Source.Method method : source.methods) {
            int counted = 0;
            for (String counter : Source.found("for \\(int (\\w+) = [^;]+; \\1 <=? [^;]+; \\1\\+\\+\\)", method.body)) {
                counted++;
                int changes = Source.found("\\b" + counter + "(\\+\\+|--| [-+*/]?= )", method.body).size();
                int heads = Source.found("for \\(int " + counter + "( = )", method.body).size();
                Check.due(method.title() + ", changes of " + counter, changes, 2 * heads);
            }
            Check.due(method.title() + ", loops with a counter", counted, Source.found("\\b(for) ?\\(", method.body).size());
        }
    }

    private static void joins(Source source) {
        Check.dueThat("a text is joined by +", !source.plain.matches("(?s).*(\"\\s*\\+|\\+\\s*\").*"));
    }

    private static void sizes(Source source) {
        Check.dueThat("classes: " + source.classes, source.classes.size() <= 12);
        for (Source.Method method : source.methods) {
            Check.dueThat(method.title() + " has " + method.parameters, method.parameters.size() <= 7);
            Check.dueThat(method.title() + " has " + method.lines + " lines", method.lines <= 60);
        }
        for (String owner : source.classes) {
            int fields = source.fields.getOrDefault(owner, Map.of()).size();
            Check.dueThat(owner + " has " + fields + " fields", fields > 0 && fields <= 20);
        }
    }

    /** Only constructors make objects and arrays, without loops, so that a run needs no more than its objects do. */
    private static void objects(Source source) {
        for (Source.Method method : source.methods) {
            int made = Source.found("(?<!throw )\\b(new) ", method.body).size();
            Check.dueThat(method.title() + " makes objects", made == 0 || method.isConstructor());
            Check.dueThat(method.title() + " makes objects in a loop", made == 0 || !method.body.contains("for ("));
        }
    }
}
