import java.util.function.LongSupplier;

/** Counts the answers that are not as due, and names them. */
final class Check {
    static final Class<?> ARGUMENT = IllegalArgumentException.class;
    static final Class<?> STATE = IllegalStateException.class;
    static final Class<?> INDEX = IndexOutOfBoundsException.class;

    private static int wrong = 0;
    private static int checked = 0;
    private static String subject = "";

    private Check() {
    }

    /** Runs a test that says what it is about; it has to check something, and nothing it calls may throw by surprise. */
    static void about(String newSubject, Runnable test) {
        subject = newSubject + ": ";
        int before = checked;
        try {
            test.run();
        } catch (RuntimeException thrown) {
            tell("the test ended with " + thrown);
        }
        if (checked == before) {
            tell("the test checked nothing");
        }
        subject = "";
    }

    static void due(String call, long got, long want) {
        checked++;
        if (got != want) {
            tell(call + " answered " + got + ", due is " + want);
        }
    }

    static void due(String call, double got, double want) {
        checked++;
        if (Double.doubleToLongBits(got) != Double.doubleToLongBits(want)) {
            tell(call + " answered " + got + ", due is " + want);
        }
    }

    static void dueThat(String what, boolean holds) {
        checked++;
        if (!holds) {
            tell(what);
        }
    }

    /** The call throws exactly this exception and changes nothing of the wheel. */
    static void dueThrow(String call, FlashRatchet wheel, Class<?> exception, LongSupplier calling) {
        checked++;
        long before = wheel.digest();
        try {
            long got = calling.getAsLong();
            tell(call + " answered " + got + ", due is " + exception.getName());
        } catch (RuntimeException thrown) {
            if (thrown.getClass() != exception) {
                tell(call + " threw " + thrown + ", due is " + exception.getName());
            }
        }
        if (wheel.digest() != before) {
            tell(call + " threw and changed something");
        }
    }

    static void append(FlashRatchet wheel, String text) {
        for (int place = 0; place < text.length(); place++) {
            wheel.append(text.charAt(place));
        }
    }

    static void load(FlashRatchet wheel, String text) {
        wheel.clearBuffer();
        append(wheel, text);
        wheel.load();
    }

    private static void tell(String message) {
        wrong++;
        if (wrong <= 50) {
            System.out.println("  " + subject + message);
        }
    }

    static void end() {
        System.out.println("  " + checked + " checked, " + wrong + " wrong");
        if (wrong > 0) {
            System.exit(1);
        }
    }
}
