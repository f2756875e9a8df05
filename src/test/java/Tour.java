import java.util.ArrayList;
import java.util.List;
import java.util.function.LongSupplier;

/** All that a wheel answers: first the calls that change nothing, then those that tell what there was by changing it. */
final class Tour {
    private final List<String> answers = new ArrayList<>();
    private final FlashRatchet wheel;

    private Tour(FlashRatchet wheel) {
        this.wheel = wheel;
    }

    /** Takes some 250 calls; the wheel is used up afterwards. */
    static List<String> of(FlashRatchet wheel) {
        Tour tour = new Tour(wheel);
        tour.askWhatThereIs();
        tour.askRunsAndChances();
        tour.askAverages();
        tour.goOn();
        tour.useTheBuffer();
        tour.setAnew();
        return tour.answers;
    }

    private void note(String call, LongSupplier calling) {
        String answer;
        try {
            answer = Long.toString(calling.getAsLong());
        } catch (RuntimeException thrown) {
            answer = "throws " + thrown.getClass().getName();
        }
        answers.add(call + " = " + answer);
    }

    private void noteCounts() {
        for (int each = 0; each <= 9; each++) {
            int what = each;
            note("count(" + what + ")", () -> wheel.count(what));
        }
        note("meanGain()", () -> Double.doubleToLongBits(wheel.meanGain()));
    }

    private void noteTables() {
        for (int lever = 0; lever < 3; lever++) {
            for (int position = 0; position < 4; position++) {
                int at = position;
                int of = lever;
                note("table(" + of + ", " + at + ")", () -> wheel.table(of, at));
            }
        }
    }

    private void askWhatThereIs() {
        noteCounts();
        noteTables();
        note("firstError()", wheel::firstError);
        note("digest()", wheel::digest);
    }

    private void askRunsAndChances() {
        for (int each = 0; each <= 2; each++) {
            int what = each;
            note("cycle(" + what + ")", () -> wheel.cycle(what));
            note("chance(5, " + what + ")", () -> wheel.chance(5, what));
            note("chanceOfGain(7, " + what + ")", () -> wheel.chanceOfGain(7, what));
            note("game(2, 1, 9, " + what + ")", () -> wheel.game(2, 1, 9, what));
        }
    }

    private void askAverages() {
        for (int number = 1; number < 16; number++) {
            int program = number;
            if (Wheels.isProgram(program)) {
                note("average(" + program + ", 0)", () -> wheel.average(program, 0));
                note("average(" + program + ", 1)", () -> wheel.average(program, 1));
                note("share(" + program + ", 1, 0)", () -> wheel.share(program, 1, 0));
                note("classes(" + program + ")", () -> wheel.classes(program));
                note("compare(1, " + program + ")", () -> wheel.compare(1, program));
            }
        }
        for (int each = 0; each <= 2; each++) {
            int what = each;
            note("best(3, " + what + ")", () -> wheel.best(3, what));
        }
        note("paradox()", wheel::paradox);
    }

    private void goOn() {
        note("run(1)", () -> wheel.run(1));
        noteCounts();
        note("run(9)", () -> wheel.run(9));
        noteCounts();
    }

    private void useTheBuffer() {
        note("append('A')", () -> wheel.append('A'));
        note("load()", wheel::load);
        noteCounts();
        noteTables();
        note("clearBuffer()", wheel::clearBuffer);
    }

    private void setAnew() {
        note("setTable(1, 1, 2, 3)", () -> wheel.setTable(1, 1, 2, 3));
        note("gear(0, false)", () -> wheel.gear(0, false));
        note("pawl(1, true)", () -> wheel.pawl(1, true));
        note("setProgram(6)", () -> wheel.setProgram(6));
        note("run(30)", () -> wheel.run(30));
        note("restart(1, 1)", () -> wheel.restart(1, 1));
        note("run(31)", () -> wheel.run(31));
        noteCounts();
        note("begin(4)", () -> wheel.begin(4));
        noteCounts();
        noteTables();
    }
}
