import java.io.IOException;
import java.lang.reflect.Constructor;
import java.lang.reflect.Field;
import java.lang.reflect.Member;
import java.lang.reflect.Method;
import java.lang.reflect.Modifier;
import java.nio.file.Files;
import java.nio.file.Path;
import java.util.ArrayList;
import java.util.List;
import java.util.Set;
import java.util.TreeSet;

/** The class has the face that the document shows and nothing beside it: LANGUAGE.md, rule 1. */
public final class FaceTest {
    private FaceTest() {
    }

    public static void main(String[] arguments) throws IOException, ReflectiveOperationException {
        Check.due("modifiers of the class", FlashRatchet.class.getModifiers(), Modifier.PUBLIC | Modifier.FINAL);
        Check.dueThat("the class is in no package", FlashRatchet.class.getPackageName().isEmpty());
        methods();
        constants();
        constructors();
        source();
        classesInside();
        Check.end();
    }

    private static boolean isOpen(Member member) {
        return !member.isSynthetic() && !Modifier.isPrivate(member.getModifiers());
    }

    private static void methods() throws IOException {
        Set<String> found = new TreeSet<>();
        for (Method method : FlashRatchet.class.getDeclaredMethods()) {
            if (isOpen(method)) {
                found.add(signature(method));
                Check.due("modifiers of " + method, method.getModifiers(), Modifier.PUBLIC);
            }
        }
        Set<String> due = new TreeSet<>();
        for (String signature : Face.signatures()) {
            due.add(withoutNames(signature));
        }
        Check.due("methods of the document", due.size(), 25);
        Check.dueThat("the methods are " + found + ", due are " + due, found.equals(due));
    }

    /** As the document writes it, but for the names of the arguments; the exceptions stand in their order. */
    private static String signature(Method method) {
        return method.getReturnType() + " " + method.getName() + "(" + names(method.getParameterTypes()) + ")"
                + (method.getExceptionTypes().length == 0 ? "" : " throws " + names(method.getExceptionTypes()));
    }

    private static String names(Class<?>[] types) {
        List<String> names = new ArrayList<>();
        for (Class<?> type : types) {
            names.add(type.getSimpleName());
        }
        return String.join(", ", names);
    }

    private static String withoutNames(String signature) {
        int start = signature.indexOf('(');
        int end = signature.indexOf(')');
        String types = signature.substring(start, end).replaceAll("(int|boolean) \\w+", "$1");
        return signature.substring(0, start) + types + signature.substring(end);
    }

    private static void constants() throws ReflectiveOperationException {
        Field none = FlashRatchet.class.getDeclaredField("NONE");
        Check.due("modifiers of NONE", none.getModifiers(), Modifier.PUBLIC | Modifier.STATIC | Modifier.FINAL);
        Check.dueThat("NONE is of type " + none.getType(), none.getType() == int.class);
        Check.due("NONE", FlashRatchet.NONE, -1);
        for (Field field : FlashRatchet.class.getDeclaredFields()) {
            Check.dueThat("field " + field, !isOpen(field) || field.equals(none));
        }
    }

    private static void constructors() {
        Constructor<?>[] constructors = FlashRatchet.class.getDeclaredConstructors();
        Check.due("constructors", constructors.length, 1);
        Check.due("modifiers of the constructor", constructors[0].getModifiers(), Modifier.PUBLIC);
        Check.due("arguments of the constructor", constructors[0].getParameterCount(), 0);
        Check.due("exceptions of the constructor", constructors[0].getExceptionTypes().length, 0);
    }

    /** The names of the arguments are those of the document too. */
    private static void source() throws IOException {
        String source = Files.readString(Path.of("src/main/java/FlashRatchet.java")).replaceAll("\\s+", " ");
        List<String> members = Face.members();
        Check.due("members of the document's face", members.size(), 27);
        List<String> promised = new ArrayList<>(List.of("FlashRatchet()"));
        promised.addAll(Face.signatures());
        Check.dueThat("the promises are about " + Face.promised(), Face.promised().equals(promised));
        for (String member : members) {
            String written = member.contains("(") ? member.replace(";", " {") : member;
            Check.dueThat("the source does not have " + written, source.contains(written));
        }
    }

    private static void classesInside() {
        Set<String> names = new TreeSet<>();
        for (Method method : FlashRatchet.class.getDeclaredMethods()) {
            if (isOpen(method)) {
                names.add(method.getName());
            }
        }
        for (Class<?> inside : FlashRatchet.class.getDeclaredClasses()) {
            Check.dueThat(inside + " is private and static", Modifier.isPrivate(inside.getModifiers())
                    && Modifier.isStatic(inside.getModifiers()));
            for (Method method : inside.getDeclaredMethods()) {
                Check.dueThat(method + " bears a name of the face", !names.contains(method.getName()));
            }
        }
        for (Method method : FlashRatchet.class.getDeclaredMethods()) {
            Check.dueThat(method + " bears a name of the face", isOpen(method) || !names.contains(method.getName()));
        }
    }
}
