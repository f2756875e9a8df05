import java.util.ArrayList;
import java.util.HashMap;
import java.util.List;
import java.util.Map;
import java.util.Set;
import java.util.TreeSet;
import java.util.regex.Matcher;
import java.util.regex.Pattern;

/** A Java file taken apart into its classes and their methods; enough for the part of Java that LANGUAGE.md leaves. */
final class Source {
    private static final Pattern CLASS = Pattern.compile(".*\\bclass (\\w+)\\s*");
    private static final Pattern METHOD = Pattern.compile("(?s)(.*?)(\\w+)\\s*\\(([^()]*)\\)\\s*(?:throws ([\\w, \\n]+))?\\s*");
    private static final Pattern WORD = Pattern.compile("(?<![\\w.])(\\w+)|\\.\\s*(\\w+)");

    /** A method or a constructor. */
    static final class Method {
        String owner;
        String name;
        boolean isOpen;
        /** The name of each parameter and its type. */
        final Map<String, String> parameters = new HashMap<>();
        String declared;
        String body;
        int lines;

        boolean isConstructor() {
            return name.equals(owner);
        }

        String title() {
            return owner + "." + name;
        }
    }

    /** The text without comments, and with nothing between quotes. */
    final String plain;
    final Set<String> classes = new TreeSet<>();
    final List<Method> methods = new ArrayList<>();
    /** For each class the names of its fields that are no constants, and their types. */
    final Map<String, Map<String, String>> fields = new HashMap<>();

    Source(String text) {
        plain = text.replaceAll("(?s)/\\*.*?\\*/", "").replaceAll("//[^\\n]*", "")
                .replaceAll("\"[^\"\\n]*\"", "\"\"").replaceAll("'[^'\\n]+'", "' '");
        readBody("", 0);
    }

    /** Reads the members behind an opening brace; answers the place behind the closing one. */
    private int readBody(String owner, int from) {
        int start = from;
        for (int place = from; place < plain.length(); place++) {
            char sign = plain.charAt(place);
            if (sign == ';') {
                addField(owner, plain.substring(start, place).strip());
                start = place + 1;
            } else if (sign == '}') {
                return place + 1;
            } else if (sign == '{') {
                place = readMember(owner, plain.substring(start, place), place + 1) - 1;
                start = place + 1;
            }
        }
        return plain.length();
    }

    private int readMember(String owner, String head, int from) {
        Matcher asClass = CLASS.matcher(head.strip());
        if (asClass.matches()) {
            classes.add(asClass.group(1));
            return readBody(asClass.group(1), from);
        }
        int end = endOfBlock(from);
        Matcher asMethod = METHOD.matcher(head);
        if (!asMethod.matches()) {
            throw new IllegalStateException("neither a class nor a method: " + head);
        }
        Method method = new Method();
        method.owner = owner;
        method.name = asMethod.group(2);
        method.isOpen = asMethod.group(1).contains("public ");
        for (String type : found("(\\w+ \\w+)", asMethod.group(3))) {
            method.parameters.put(type.substring(type.indexOf(' ') + 1), type.substring(0, type.indexOf(' ')));
        }
        method.declared = asMethod.group(4) == null ? "" : asMethod.group(4).strip();
        method.body = plain.substring(from, end - 1);
        method.lines = method.body.split("\n").length;
        methods.add(method);
        return end;
    }

    private void addField(String owner, String field) {
        String[] words = field.split(" ");
        if (!field.contains("static final ")) {
            fields.computeIfAbsent(owner, each -> new HashMap<>()).put(words[words.length - 1], words[words.length - 2]);
        }
    }

    private int endOfBlock(int from) {
        int open = 1;
        for (int place = from; place < plain.length(); place++) {
            char sign = plain.charAt(place);
            open += sign == '{' ? 1 : sign == '}' ? -1 : 0;
            if (open == 0) {
                return place + 1;
            }
        }
        throw new IllegalStateException("a block without an end");
    }

    /** The words of the text that stand alone, and those behind a point. */
    Set<String> words() {
        Set<String> words = new TreeSet<>();
        Matcher word = WORD.matcher(plain);
        while (word.find()) {
            words.add(word.group(1) != null ? word.group(1) : word.group(2));
        }
        return words;
    }

    /** The methods that a method calls, each as its title; those of the library are left out. */
    Set<String> calledBy(Method method) {
        Set<String> called = new TreeSet<>();
        for (String call : found("(?<![\\w.])((?:new |(?:\\w+\\.)*)\\w+)\\(", method.body)) {
            String title = call.startsWith("new ") ? call.substring(4) + "." + call.substring(4) : resolve(method, call);
            if (hasMethod(title)) {
                called.add(title);
            }
        }
        return called;
    }

    /** A name alone is of the method's own class or of the outermost one; before a point stands a parameter or a field. */
    private String resolve(Method method, String call) {
        String[] parts = call.split("\\.");
        String name = parts[parts.length - 1];
        if (parts.length == 1) {
            return hasMethod(method.owner + "." + name) ? method.owner + "." + name : "FlashRatchet." + name;
        }
        String type = method.parameters.getOrDefault(parts[0], fieldType(method.owner, parts[0]));
        for (int place = 1; place < parts.length - 1; place++) {
            type = fieldType(type, parts[place]);
        }
        return type + "." + name;
    }

    private String fieldType(String owner, String field) {
        return fields.getOrDefault(owner, Map.of()).getOrDefault(field, field);
    }

    private boolean hasMethod(String title) {
        for (Method method : methods) {
            if (method.title().equals(title)) {
                return true;
            }
        }
        return false;
    }

    /** All that a pattern finds, its first group each time. */
    static List<String> found(String pattern, String text) {
        List<String> found = new ArrayList<>();
        Matcher matcher = Pattern.compile(pattern).matcher(text);
        while (matcher.find()) {
            found.add(matcher.group(1));
        }
        return found;
    }
}
