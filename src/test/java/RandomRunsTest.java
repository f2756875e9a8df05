import java.util.function.LongSupplier;

/** Long runs of calls, drawn by a fixed rule, against the model; right arguments and, now and then, wrong ones. */
public final class RandomRunsTest {
    private static final int RUNS = 420;
    /** No call() makes more than 170 calls of the wheel, and the document promises nothing behind the 512th. */
    private static final int CALLS_TO_BEGIN_WITH = 512 - 170;

    private final FlashRatchet wheel = new FlashRatchet();
    private final Model model = new Model();
    private final String name;
    private long dice;
    private int calls;

    private RandomRunsTest(int run) {
        name = "run " + run + ": ";
        dice = 977L * run + 5;
    }

    public static void main(String[] arguments) {
        for (int run = 0; run < RUNS; run++) {
            RandomRunsTest test = new RandomRunsTest(run);
            test.setOut(2 + run % 3);
            if (run % 3 == 1 && run % 2 == 1) {
                test.setOutParadox();
            }
            while (test.calls <= CALLS_TO_BEGIN_WITH) {
                test.call();
            }
        }
        Check.end();
    }

    private int below(int bound) {
        dice = dice * 6364136223846793005L + 1442695040888963407L;
        return (int) Long.remainderUnsigned(dice >>> 33, bound);
    }

    /** A number of the range, at times one beside it. */
    private int about(int least, int most) {
        if (below(12) == 0) {
            int[] beside = {least - 1, most + 1, Integer.MIN_VALUE, Integer.MAX_VALUE, least - 20, most + 32};
            return beside[below(beside.length)];
        }
        return least + below(most - least + 1);
    }

    private int aboutProgram() {
        if (below(12) == 0) {
            return about(0, 260);
        }
        int number = 0;
        int length = 1 + below(4);
        for (int place = 0; place < length; place++) {
            number = 4 * number + 1 + below(3);
        }
        return number;
    }

    private static boolean isIn(int number, int least, int most) {
        return number >= least && number <= most;
    }

    private boolean isPosition(int at) {
        return isIn(at, 0, model.positions - 1);
    }

    private void setOut(int positions) {
        due("begin(" + positions + ")", null, () -> wheel.begin(positions), () -> model.begin(positions));
        for (int lever = 0; lever < 3; lever++) {
            for (int at = 0; at < positions; at++) {
                if (below(4) > 0) {
                    setTable(lever, at, below(6), below(6));
                }
            }
        }
    }

    /** Two levers that win together, and chance calls from there. */
    private void setOutParadox() {
        gear(2, false);
        for (int at = 0; at < 3; at++) {
            setTable(0, at, 5, 4);
            setTable(1, at, at == 0 ? 7 : 1, at == 0 ? 0 : 5);
        }
        due("paradox()", null, wheel::paradox, () -> 1);
        due("paradox()", null, wheel::paradox, model::paradox);
    }

    /** The exception that is due, or null, and then the model's answer. */
    private void due(String call, Class<?> exception, LongSupplier calling, LongSupplier told) {
        if (exception != null) {
            calls += 3;
            Check.dueThrow(name + call, wheel, exception, calling);
        } else {
            calls++;
            Check.due(name + call, calling.getAsLong(), told.getAsLong());
        }
    }

    private static Class<?> argumentUnless(boolean isRight) {
        return isRight ? null : Check.ARGUMENT;
    }

    private static Class<?> indexUnless(boolean isRight) {
        return isRight ? null : Check.INDEX;
    }

    private void call() {
        switch (below(24)) {
            case 0 -> begin();
            case 1, 2, 3 -> setTable(about(0, 2), about(0, model.positions - 1), about(0, 8), about(0, 8));
            case 4 -> gear(about(0, 2), below(3) > 0);
            case 5 -> pawl(about(0, model.positions - 1), below(3) == 0);
            case 6 -> setProgram(aboutProgram());
            case 7 -> restart(about(0, model.positions - 1), about(0, 999));
            case 8, 9 -> run(below(3) > 0 ? about(1, 9) : about(1, 500));
            case 10, 11 -> text();
            case 12 -> cycle(about(0, 2));
            case 13 -> chance(about(0, 15), about(0, model.positions - 1));
            case 14 -> chanceOfGain(about(0, 15), about(-15, 15));
            case 15, 16 -> game(about(1, below(2) > 0 ? 3 : 15), about(1, below(2) > 0 ? 3 : 15), about(0, 15), about(0, 2));
            case 17 -> average(aboutProgram(), about(0, 1));
            case 18 -> share(aboutProgram(), about(0, model.positions - 1), about(0, 1));
            case 19 -> classes(aboutProgram());
            case 20 -> compare(aboutProgram(), aboutProgram());
            case 21 -> best(about(1, 3), about(0, 2));
            case 22 -> due("paradox()", null, wheel::paradox, model::paradox);
            default -> counts();
        }
    }

    private void begin() {
        if (below(8) == 0) {
            setOut(2 + below(3));
        }
        int wrong = about(5, 9);
        due("begin(" + wrong + ")", argumentUnless(isIn(wrong, 2, 4)), () -> wheel.begin(wrong), () -> model.begin(wrong));
    }

    private void setTable(int lever, int at, int back, int forward) {
        boolean isRight = isIn(back, 0, 10) && isIn(forward, 0, 10) && back + forward <= 10;
        Class<?> exception = isIn(lever, 0, 2) && isPosition(at) ? argumentUnless(isRight) : Check.INDEX;
        due("setTable(" + lever + ", " + at + ", " + back + ", " + forward + ")", exception,
                () -> wheel.setTable(lever, at, back, forward), () -> model.setTable(lever, at, back, forward));
    }

    private void gear(int lever, boolean in) {
        due("gear(" + lever + ", " + in + ")", indexUnless(isIn(lever, 0, 2)), () -> wheel.gear(lever, in),
                () -> model.gear(lever, in));
    }

    private void pawl(int at, boolean set) {
        due("pawl(" + at + ", " + set + ")", indexUnless(isPosition(at)), () -> wheel.pawl(at, set),
                () -> model.pawl(at, set));
    }

    private void setProgram(int number) {
        due("setProgram(" + number + ")", argumentUnless(Model.isProgram(number)), () -> wheel.setProgram(number),
                () -> model.setProgram(number));
    }

    private void restart(int at, int seed) {
        Class<?> exception = isPosition(at) ? argumentUnless(isIn(seed, 0, 999)) : Check.INDEX;
        due("restart(" + at + ", " + seed + ")", exception, () -> wheel.restart(at, seed), () -> model.restart(at, seed));
    }

    private void run(int ticks) {
        due("run(" + ticks + ")", argumentUnless(isIn(ticks, 1, 500)), () -> wheel.run(ticks), () -> model.run(ticks));
    }

    private String itemText() {
        StringBuilder item = new StringBuilder();
        if (below(3) == 0) {
            item.append("P:");
            int length = 1 + below(4);
            for (int place = 0; place < length; place++) {
                item.append((char) ('A' + below(3)));
            }
            return item.toString();
        }
        item.append((char) ('A' + below(3))).append(':');
        for (int at = 0; at < model.positions; at++) {
            int back = below(10);
            item.append(at > 0 ? "," : "").append(back).append(below(Math.min(9, 10 - back) + 1));
        }
        return item.toString();
    }

    private String someText() {
        StringBuilder text = new StringBuilder(itemText());
        for (int more = below(5); more > 0; more--) {
            text.append(';').append(itemText());
        }
        if (below(3) == 0) {
            text.setLength(1 + below(text.length()));
        }
        if (below(3) == 0) {
            text.setCharAt(below(text.length()), "ABCDP:;,0123456789a!~".charAt(below(21)));
        }
        if (below(6) == 0) {
            text.append("ABCDP:;,0123456789a!~".charAt(below(21)));
        }
        return text.toString();
    }

    private void text() {
        if (below(4) > 0) {
            due("clearBuffer()", null, wheel::clearBuffer, () -> {
                int length = model.buffer.length();
                model.buffer.setLength(0);
                return length;
            });
        }
        for (char sign : someText().toCharArray()) {
            Class<?> exception = model.buffer.length() >= 60 ? Check.STATE : null;
            due("append(" + sign + ")", exception, () -> wheel.append(sign), () -> model.buffer.append(sign).length());
            if (exception != null) {
                break;
            }
        }
        int wrong = below(2) == 0 ? below(33) : 127 + below(99);
        due("append(" + wrong + ")", Check.ARGUMENT, () -> wheel.append(wrong), () -> 0);
        due("firstError() of " + model.buffer, null, wheel::firstError, model::firstError);
        due("load() of " + model.buffer, argumentUnless(model.isText()), wheel::load, model::load);
        counts();
    }

    private void cycle(int what) {
        due("cycle(" + what + ")", argumentUnless(isIn(what, 0, 2)), () -> wheel.cycle(what), () -> model.cycle(what));
    }

    private void chance(int ticks, int at) {
        Class<?> exception = isIn(ticks, 0, 15) ? indexUnless(isPosition(at)) : Check.ARGUMENT;
        due("chance(" + ticks + ", " + at + ")", exception, () -> wheel.chance(ticks, at), () -> model.chance(ticks, at));
    }

    private void chanceOfGain(int ticks, int least) {
        due("chanceOfGain(" + ticks + ", " + least + ")", argumentUnless(isIn(ticks, 0, 15)),
                () -> wheel.chanceOfGain(ticks, least), () -> model.chanceOfGain(ticks, least));
    }

    private void game(int money, int goal, int ticks, int what) {
        boolean isRight = isIn(money, 1, 15) && isIn(goal, 1, 15) && isIn(ticks, 0, 15) && isIn(what, 0, 2);
        due("game(" + money + ", " + goal + ", " + ticks + ", " + what + ")", argumentUnless(isRight),
                () -> wheel.game(money, goal, ticks, what), () -> model.game(money, goal, ticks, what));
    }

    private void average(int number, int what) {
        due("average(" + number + ", " + what + ")", argumentUnless(Model.isProgram(number) && isIn(what, 0, 1)),
                () -> wheel.average(number, what), () -> model.average(number, what));
    }

    private void share(int number, int at, int what) {
        boolean isRight = Model.isProgram(number) && isIn(what, 0, 1);
        due("share(" + number + ", " + at + ", " + what + ")", isPosition(at) ? argumentUnless(isRight) : Check.INDEX,
                () -> wheel.share(number, at, what), () -> model.share(number, at, what));
    }

    private void classes(int number) {
        due("classes(" + number + ")", argumentUnless(Model.isProgram(number)), () -> wheel.classes(number),
                () -> model.classes(number));
    }

    private void compare(int one, int other) {
        Class<?> exception = argumentUnless(Model.isProgram(one) && Model.isProgram(other));
        if (exception == null && (!model.hasAverage(one) || !model.hasAverage(other))) {
            exception = Check.STATE;
        }
        due("compare(" + one + ", " + other + ")", exception, () -> wheel.compare(one, other),
                () -> model.compare(one, other));
    }

    private void best(int most, int what) {
        due("best(" + most + ", " + what + ")", argumentUnless(isIn(most, 1, 3) && isIn(what, 0, 2)),
                () -> wheel.best(most, what), () -> model.best(most, what));
    }

    private void counts() {
        for (int each = -1; each <= 10; each++) {
            int what = each;
            due("count(" + what + ")", argumentUnless(isIn(what, 0, 9)), () -> wheel.count(what), () -> model.count(what));
        }
        int lever = about(0, 2);
        int at = about(0, model.positions - 1);
        due("table(" + lever + ", " + at + ")", indexUnless(isIn(lever, 0, 2) && isPosition(at)),
                () -> wheel.table(lever, at), () -> model.table(lever, at));
        calls++;
        Check.due(name + "meanGain()", wheel.meanGain(), model.meanGain());
    }
}
