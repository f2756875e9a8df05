import java.io.IOException;
import java.lang.reflect.Constructor;
import java.lang.reflect.Field;
import java.lang.reflect.Member;
import java.lang.reflect.Method;
import java.lang.reflect.Modifier;
import java.nio.file.Files;
import java.nio.file.Path;
import java.util.Set;
import java.util.TreeSet;

/** The class has the document's face and nothing beside it, and keeps to the language's plainest rules. */
public final class FaceTest {
    private static final Set<String> FACE = Set.of("int begin(int)", "int setTable(int, int, int, int)",
            "int gear(int, boolean)", "int pawl(int, boolean)", "int setProgram(int)", "int restart(int, int)", "int run(int)",
            "int append(int)", "int clearBuffer()", "int firstError()", "int load()", "int cycle(int)",
            "long chance(int, int)", "long chanceOfGain(int, int)", "long game(int, int, int, int)",
            "long average(int, int)", "long share(int, int, int)", "int classes(int)", "int compare(int, int)",
            "long best(int, int)", "int paradox()", "int count(int)", "int table(int, int)", "double meanGain()",
            "long digest()");

    private FaceTest() {
    }

    public static void main(String[] arguments) throws IOException {
        Set<String> found = new TreeSet<>();
        Set<String> names = new TreeSet<>();
        for (Method method : FlashRatchet.class.getDeclaredMethods()) {
            if (isOpen(method)) {
                found.add(signature(method));
                names.add(method.getName());
            }
        }
        Check.dueThat("the methods are " + found, found.equals(new TreeSet<>(FACE)));
        for (Field field : FlashRatchet.class.getDeclaredFields()) {
            Check.dueThat("field " + field, !isOpen(field) || field.getName().equals("NONE"));
        }
        Constructor<?>[] constructors = FlashRatchet.class.getDeclaredConstructors();
        Check.dueThat("one constructor", constructors.length == 1 && constructors[0].getParameterCount() == 0);
        Check.dueThat("a final class", Modifier.isFinal(FlashRatchet.class.getModifiers()));
        Check.dueThat("at most 12 classes", FlashRatchet.class.getDeclaredClasses().length < 12);
        for (Class<?> inside : FlashRatchet.class.getDeclaredClasses()) {
            Check.dueThat(inside + " is private and static", Modifier.isPrivate(inside.getModifiers())
                    && Modifier.isStatic(inside.getModifiers()));
            for (Method method : inside.getDeclaredMethods()) {
                Check.dueThat(method + " bears a name of the face", !names.contains(method.getName()));
            }
        }
        source();
        Check.end();
    }

    private static boolean isOpen(Member member) {
        return !member.isSynthetic() && !Modifier.isPrivate(member.getModifiers());
    }

    private static String signature(Method method) {
        StringBuilder text = new StringBuilder(method.getReturnType() + " " + method.getName() + "(");
        for (Class<?> type : method.getParameterTypes()) {
            text.append(text.charAt(text.length() - 1) == '(' ? "" : ", ").append(type);
        }
        return text.append(")").toString();
    }

    private static void source() throws IOException {
        String text = Files.readString(Path.of("src/main/java/FlashRatchet.java"));
        for (String word : new String[] {"->", "::", "import ", "package ", "synchronized", "assert ", "finally", "catch",
            "Exact(", "Boolean.", "Random", "System.", "Thread", "NaN", "instanceof", "static {"}) {
            Check.dueThat("the source holds " + word, !text.contains(word));
        }
    }
}
