import java.util.EnumMap;
import java.util.List;
import java.util.Map;

/** A call that is refused: it throws its exception and no other, and all calls behind it answer as if it had not been. */
final class Refused {
    private static final Map<Start, List<String>> TOURS = new EnumMap<>(Start.class);

    private Refused() {
    }

    interface Call {
        long on(FlashRatchet wheel);
    }

    /** Refused in each state. */
    static void due(String call, Class<?> exception, Call calling) {
        for (Start start : Start.values()) {
            dueFrom(start, call, exception, calling);
        }
    }

    static void dueFrom(Start start, String call, Class<?> exception, Call calling) {
        String name = call + " from " + start;
        FlashRatchet wheel = start.wheel();
        dueException(name, wheel, exception, calling);
        List<String> got = Tour.of(wheel);
        List<String> want = TOURS.computeIfAbsent(start, each -> Tour.of(each.wheel()));
        for (int place = 0; place < want.size(); place++) {
            String answer = got.get(place);
            Check.dueThat("behind " + name + ", " + answer + ", due is " + want.get(place), answer.equals(want.get(place)));
        }
    }

    static void dueException(String name, FlashRatchet wheel, Class<?> exception, Call calling) {
        String got;
        try {
            got = "answered " + calling.on(wheel);
        } catch (RuntimeException thrown) {
            got = "threw " + thrown.getClass().getName();
        }
        String want = "threw " + exception.getName();
        Check.dueThat(name + " " + got + ", due is that it " + want, got.equals(want));
    }
}
