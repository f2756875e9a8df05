import java.util.ArrayList;
import java.util.List;

/** The sentences of promises 23 to 26, those on exceptions as a whole, and on how long an object is used. */
final class CountSentences {
    private CountSentences() {
    }

    static void all() {
        promises23And24();
        promises25And26();
        theWholeObject();
    }

    private static void promises23And24() {
        Sentence.test("Promise 23", "Returns a number.", CountSentences::allNumbersOfAllStarts);
        String what = "what: 0: positions; 1: the present position; 2: the number of the present program; 3: the index in it; 4: "
                + "the seed; 5: the total gain; 6: the ticks; 7: levers that are geared in, as a bit mask; 8: positions with a "
                + "pawl that is set, as a bit mask; 9: the length of the present program";
        Sentence.test("Promise 23", what, CountSentences::positionsOfTheWheel);
        Sentence.test("Promise 23", what, CountSentences::programsAndIndexes);
        Sentence.test("Promise 23", what, CountSentences::seedsGainsAndTicks);
        Sentence.test("Promise 23", what, CountSentences::bitMasks);
        Sentence.test("Promise 23", "Returns the number.", CountSentences::askingForNumbersChangesNothing);
        Sentence.test("Promise 23", "Throws IllegalArgumentException if what is not 0 to 9", CountSentences::noSuchCount);
        Sentence.test("Promise 24", "Returns the numbers of a lever for a position.", CountSentences::theNumbersThatWereSet);
        Sentence.test("Promise 24", "lever: its number", CountSentences::firstAndLastLever);
        Sentence.test("Promise 24", "position: a position", CountSentences::firstAndLastPosition);
        Sentence.test("Promise 24", "Returns 100 times back plus forward.", CountSentences::leastAndGreatestNumbers);
        String index = "Throws IndexOutOfBoundsException if the lever or the position does not exist";
        Sentence.test("Promise 24", index, CountSentences::noSuchLever);
        Sentence.test("Promise 24", index, CountSentences::noSuchPosition);
    }

    private static void promises25And26() {
        Sentence.test("Promise 25", "Returns the mean gain of the ticks that have passed.",
                CountSentences::ticksBeforeRestartDoNotCount);
        String mean = "Returns the total gain, as a double, divided by the number of ticks; 0.0 if there were none.";
        Sentence.test("Promise 25", mean, CountSentences::meanOfNoTicks);
        Sentence.test("Promise 25", mean, CountSentences::meanOfOneTick);
        Sentence.test("Promise 25", mean, CountSentences::leastAndGreatestMean);
        Sentence.test("Promise 25", mean, CountSentences::meansBetweenWholeNumbers);
        Sentence.test("Promise 26", "Computes a hash of the whole state.", CountSentences::digestChangesNothing);
        Sentence.test("Promise 26", "The hash starts at 2029.", CountSentences::digestOfANewObject);
        Sentence.test("Promise 26", "For each value v of the following list, in order, the hash becomes 31 * hash + v, in long "
                + "arithmetic with overflow.", CountSentences::digestsOfAllStarts);
        Sentence.test("Promise 26", "The values are: count(0) to count(9); the numbers of all levers, for each one those of all "
                + "positions; cycle(0) to cycle(2); for each position chance with 6 ticks; chanceOfGain(6, 1); game(2, 2, 6, "
                + "what) for 0 to 2; classes of the present program, its average for 0 and 1, and for each position its share "
                + "for 0 and 1; best(2, what) for 0 to 2; paradox; the length of the buffer and each of its character codes.",
                CountSentences::digestsOfTheEmptyAndTheFullBuffer);
        Sentence.test("Promise 26", "Returns the hash.", CountSentences::hashesOfAllStarts);
    }

    private static void theWholeObject() {
        Sentence.test("Exceptions", "A call that throws an exception changes nothing.",
                CountSentences::manyRefusedCallsOneAfterAnother);
        Sentence.test("What it is", "A ratchet wheel that is driven by levers: each lever has a table of chances for "
                + "moving the wheel back or forward at each position, a program tells which lever is used at which tick, pawls "
                + "hold the wheel, levers are geared out; runs by drawn numbers and their cycles, exact chances, exact averages "
                + "in the long run, and the best program.", CountSentences::aWheelFromItsLeversToItsBestProgram);
        String calls = "An object is used for at most 512 calls after it has been made; what later calls answer is free.";
        Sentence.test("What it is", calls, CountSentences::theLastOf512Calls);
        Sentence.test("What it is", calls, CountSentences::theLastOf512RefusedCalls);
        Sentence.leavesFree("Not promised", "How the state is held inside the object is free, as are the speed of each "
                + "call, the text of toString and the behaviour of equals and hashCode.");
        Sentence.leavesFree("Not promised", "Use of one object from several threads at once is not promised to be safe.");
        Sentence.leavesFree("Not promised", "Nothing is promised beyond the answers and state changes described above, and "
                + "nothing about an object after its 512th call.");
    }

    // ---- promises 23 and 24

    /** Worked out outside of this program, as are the hashes below. */
    private static void allNumbersOfAllStarts() {
        int[][] due = {{3, 0, 1, 0, 0, 0, 0, 7, 0, 1}, {2, 1, 39, 1, 25, 0, 4, 3, 2, 3}, {3, 2, 26, 2, 499, 21, 500, 7, 0, 3},
            {4, 0, 219, 3, 89, 1, 7, 7, 9, 4}};
        for (Start start : Start.values()) {
            FlashRatchet wheel = start.wheel();
            for (int what = 0; what <= 9; what++) {
                Check.due(start + ", count(" + what + ")", wheel.count(what), due[start.ordinal()][what]);
            }
        }
    }

    private static void askingForNumbersChangesNothing() {
        for (Start start : Start.values()) {
            FlashRatchet wheel = start.wheel();
            for (int what = 9; what >= 0; what--) {
                wheel.count(what);
            }
            Check.dueThat("something has changed, " + start, Tour.of(wheel).equals(Tour.of(start.wheel())));
        }
    }

    private static void positionsOfTheWheel() {
        FlashRatchet wheel = new FlashRatchet();
        for (int positions = 2; positions <= 4; positions++) {
            wheel.begin(positions);
            Check.due("count(0)", wheel.count(0), positions);
            for (int position = 0; position < positions; position++) {
                wheel.restart(position, 0);
                Check.due("count(1)", wheel.count(1), position);
            }
        }
    }

    private static void programsAndIndexes() {
        FlashRatchet wheel = new FlashRatchet();
        for (String program : new String[] {"A", "C", "AA", "CC", "AAA", "CCC", "AAAA", "CCCC"}) {
            wheel.setProgram(Wheels.numberOf(program));
            Check.due("count(2) of " + program, wheel.count(2), Wheels.numberOf(program));
            Check.due("count(9) of " + program, wheel.count(9), program.length());
            for (int index = 0; index <= program.length(); index++) {
                Check.due("count(3) of " + program, wheel.count(3), index % program.length());
                wheel.run(1);
            }
        }
    }

    private static void seedsGainsAndTicks() {
        FlashRatchet wheel = Wheels.forwardBackStay();
        for (int seed : new int[] {0, 1, 998, 999}) {
            wheel.restart(0, seed);
            Check.due("count(4)", wheel.count(4), seed);
        }
        wheel.run(500);
        Check.due("count(5)", wheel.count(5), 500);
        Check.due("count(6)", wheel.count(6), 500);
        wheel.setProgram(2);
        wheel.run(500);
        wheel.run(500);
        Check.due("count(5)", wheel.count(5), -500);
        Check.due("count(6)", wheel.count(6), 1500);
    }

    private static void bitMasks() {
        FlashRatchet wheel = new FlashRatchet();
        wheel.begin(4);
        for (int mask = 0; mask <= 15; mask++) {
            for (int bit = 0; bit <= 3; bit++) {
                wheel.pawl(bit, (mask >> bit & 1) == 1);
            }
            for (int bit = 0; bit <= 2; bit++) {
                wheel.gear(bit, (mask >> bit & 1) == 1);
            }
            Check.due("count(7)", wheel.count(7), mask & 7);
            Check.due("count(8)", wheel.count(8), mask);
        }
    }

    private static void noSuchCount() {
        for (int wrong : Wheels.outside(0, 9)) {
            Refused.due("count(" + wrong + ")", Check.ARGUMENT, wheel -> wheel.count(wrong));
        }
    }

    private static void theNumbersThatWereSet() {
        FlashRatchet wheel = new FlashRatchet();
        wheel.begin(4);
        for (int place = 0; place < 12; place++) {
            wheel.setTable(place / 4, place % 4, place / 4, place % 4 + 1);
        }
        wheel.gear(1, false);
        wheel.pawl(2, true);
        wheel.run(77);
        for (int place = 0; place < 12; place++) {
            Check.due("table " + place, wheel.table(place / 4, place % 4), 100 * (place / 4) + place % 4 + 1);
        }
    }

    private static void firstAndLastLever() {
        FlashRatchet wheel = Wheels.of(2, "A:01,02;C:05,06");
        Check.due("the first", wheel.table(0, 1), 2);
        Check.due("the last", wheel.table(2, 1), 6);
    }

    private static void firstAndLastPosition() {
        for (int positions = 2; positions <= 4; positions++) {
            FlashRatchet wheel = new FlashRatchet();
            wheel.begin(positions);
            wheel.setTable(1, 0, 1, 2);
            wheel.setTable(1, positions - 1, 3, 4);
            Check.due("the first", wheel.table(1, 0), 102);
            Check.due("the last", wheel.table(1, positions - 1), 304);
        }
    }

    private static void leastAndGreatestNumbers() {
        FlashRatchet wheel = new FlashRatchet();
        Check.due("0 and 0", wheel.table(0, 0), 0);
        wheel.setTable(0, 0, 0, 10);
        Check.due("0 and 10", wheel.table(0, 0), 10);
        wheel.setTable(0, 0, 10, 0);
        Check.due("10 and 0", wheel.table(0, 0), 1000);
        wheel.setTable(0, 0, 9, 1);
        Check.due("9 and 1", wheel.table(0, 0), 901);
    }

    private static void noSuchLever() {
        for (int wrong : Wheels.outside(0, 2)) {
            Refused.due("table(" + wrong + ", 0)", Check.INDEX, wheel -> wheel.table(wrong, 0));
        }
    }

    private static void noSuchPosition() {
        for (int wrong : Wheels.outside(0, 3)) {
            Refused.due("table(2, " + wrong + ")", Check.INDEX, wheel -> wheel.table(2, wrong));
        }
        Refused.due("table(0, m)", Check.INDEX, wheel -> wheel.table(0, wheel.count(0)));
        Refused.due("table(3, m)", Check.INDEX, wheel -> wheel.table(3, wheel.count(0)));
    }

    // ---- promises 25 and 26

    private static void ticksBeforeRestartDoNotCount() {
        FlashRatchet wheel = Wheels.forwardBackStay();
        wheel.run(10);
        wheel.restart(0, 0);
        wheel.setProgram(2);
        wheel.run(4);
        Check.due("since restart", wheel.meanGain(), -1.0);
        wheel.setProgram(3);
        wheel.run(4);
        Check.due("since restart, over both programs", wheel.meanGain(), -0.5);
    }

    private static void meanOfNoTicks() {
        FlashRatchet wheel = Wheels.forwardBackStay();
        Check.due("at first", wheel.meanGain(), 0.0);
        wheel.run(1);
        wheel.restart(0, 0);
        Check.due("behind restart", wheel.meanGain(), 0.0);
        wheel.run(1);
        wheel.begin(2);
        Check.due("behind begin", wheel.meanGain(), 0.0);
    }

    private static void meanOfOneTick() {
        double[] means = {1.0, -1.0, 0.0};
        for (int lever = 0; lever <= 2; lever++) {
            FlashRatchet wheel = Wheels.forwardBackStay();
            wheel.setProgram(lever + 1);
            wheel.run(1);
            Check.due("lever " + lever, wheel.meanGain(), means[lever]);
        }
    }

    private static void leastAndGreatestMean() {
        FlashRatchet wheel = Wheels.forwardBackStay();
        wheel.run(500);
        wheel.run(500);
        Check.due("all forward", wheel.meanGain(), 1.0);
        wheel.setProgram(2);
        wheel.run(500);
        wheel.run(500);
        Check.due("as many back", wheel.meanGain(), 0.0);
        wheel.restart(0, 0);
        wheel.run(500);
        Check.due("all back", wheel.meanGain(), -1.0);
    }

    private static void meansBetweenWholeNumbers() {
        FlashRatchet wheel = Wheels.forwardBackStay();
        wheel.setProgram(Wheels.numberOf("ACC"));
        wheel.run(3);
        Check.due("1 of 3", wheel.meanGain(), 1.0 / 3.0);
        wheel.setProgram(Wheels.numberOf("BBC"));
        wheel.run(4);
        Check.due("-2 of 7", wheel.meanGain(), -2.0 / 7.0);
    }

    private static void digestChangesNothing() {
        for (Start start : Start.values()) {
            FlashRatchet wheel = start.wheel();
            long digest = wheel.digest();
            Check.due(start + ", digest() again", wheel.digest(), digest);
            Check.dueThat("something has changed, " + start, Tour.of(wheel).equals(Tour.of(start.wheel())));
        }
    }

    /** Worked out outside of this program, from the document's list: 43 values, most of them 0. */
    private static void digestOfANewObject() {
        Check.due("digest()", new FlashRatchet().digest(), 5101186693590766483L);
    }

    private static void hashesOfAllStarts() {
        long[] due = {5101186693590766483L, -7665939312532998857L, 1442898651490066863L, 6824427239215888686L};
        for (Start start : Start.values()) {
            Check.due(start + ", digest()", start.wheel().digest(), due[start.ordinal()]);
        }
    }

    private static void digestsOfAllStarts() {
        String[] buffers = {"", "A:12,3", "B:11,22,33;P:CA", "C:09,18,27,36;B:45,54,63,72;A:81,90,08,17;B:26,35,44,53;P:CB"};
        for (Start start : Start.values()) {
            FlashRatchet wheel = start.wheel();
            Check.due(start + ", digest()", wheel.digest(), CountTest.listed(wheel, buffers[start.ordinal()]));
        }
        for (int drawn = 0; drawn < 100; drawn++) {
            FlashRatchet wheel = Wheels.drawn(drawn);
            wheel.setProgram(Wheels.numberOf(Wheels.programs().get(drawn)));
            wheel.run(drawn + 1);
            Check.due("wheel " + drawn + ", digest()", wheel.digest(), CountTest.listed(wheel, ""));
        }
    }

    private static void digestsOfTheEmptyAndTheFullBuffer() {
        FlashRatchet wheel = Wheels.paradox();
        String buffer = "";
        for (int length = 0; length <= 60; length++) {
            if (length % 20 < 2) {
                Check.due("with " + length, wheel.digest(), CountTest.listed(wheel, buffer));
            }
            if (length < 60) {
                char sign = (char) (33 + 37 * length % 94);
                wheel.append(sign);
                buffer += sign;
            }
        }
        wheel.clearBuffer();
        Check.due("cleared", wheel.digest(), CountTest.listed(wheel, ""));
    }

    // ---- the whole object

    private static List<Refused.Call> refusedCalls() {
        List<Refused.Call> calls = new ArrayList<>();
        for (int each : new int[] {-1, 1000, Integer.MIN_VALUE, Integer.MAX_VALUE}) {
            int wrong = each;
            calls.add(wheel -> wheel.begin(wrong));
            calls.add(wheel -> wheel.setTable(wrong, 0, 1, 1));
            calls.add(wheel -> wheel.setTable(0, wrong, 1, 1));
            calls.add(wheel -> wheel.setTable(0, 0, wrong, 1));
            calls.add(wheel -> wheel.setTable(0, 0, 1, wrong));
            calls.add(wheel -> wheel.gear(wrong, false));
            calls.add(wheel -> wheel.pawl(wrong, true));
            calls.add(wheel -> wheel.setProgram(wrong));
            calls.add(wheel -> wheel.restart(wrong, 1));
            calls.add(wheel -> wheel.restart(0, wrong));
            calls.add(wheel -> wheel.run(wrong));
            calls.add(wheel -> wheel.append(wrong));
            calls.add(wheel -> wheel.cycle(wrong));
            calls.add(wheel -> wheel.chance(wrong, 0));
            calls.add(wheel -> wheel.chance(3, wrong));
            calls.add(wheel -> wheel.chanceOfGain(wrong, 0));
            calls.add(wheel -> wheel.game(wrong, 1, 3, 0));
            calls.add(wheel -> wheel.game(1, wrong, 3, 0));
            calls.add(wheel -> wheel.game(1, 1, wrong, 0));
            calls.add(wheel -> wheel.game(1, 1, 3, wrong));
            calls.add(wheel -> wheel.average(wrong, 0));
            calls.add(wheel -> wheel.average(1, wrong));
            calls.add(wheel -> wheel.share(wrong, 0, 0));
            calls.add(wheel -> wheel.share(1, wrong, 0));
            calls.add(wheel -> wheel.share(1, 0, wrong));
            calls.add(wheel -> wheel.classes(wrong));
            calls.add(wheel -> wheel.compare(wrong, 1));
            calls.add(wheel -> wheel.compare(1, wrong));
            calls.add(wheel -> wheel.best(wrong, 0));
            calls.add(wheel -> wheel.best(1, wrong));
            calls.add(wheel -> wheel.count(wrong));
            calls.add(wheel -> wheel.table(wrong, 0));
            calls.add(wheel -> wheel.table(0, wrong));
        }
        return calls;
    }

    private static int refused(FlashRatchet wheel, List<Refused.Call> calls) {
        int refused = 0;
        for (Refused.Call call : calls) {
            try {
                call.on(wheel);
            } catch (IllegalArgumentException | IndexOutOfBoundsException | IllegalStateException thrown) {
                refused++;
            }
        }
        return refused;
    }

    private static void manyRefusedCallsOneAfterAnother() {
        List<Refused.Call> calls = refusedCalls();
        for (Start start : Start.values()) {
            FlashRatchet wheel = start.wheel();
            Check.due(start + ", refused calls", refused(wheel, calls), calls.size());
            Check.dueThat("something has changed, " + start, Tour.of(wheel).equals(Tour.of(start.wheel())));
        }
    }

    /** All that the first sentence names, on one wheel; the answers are worked out outside of this program. */
    private static void aWheelFromItsLeversToItsBestProgram() {
        FlashRatchet wheel = Wheels.ofNumbers(4, 305, 305, 1000, 305, 600, 601, 602, 603, 10);
        wheel.setProgram(Wheels.numberOf("AB"));
        wheel.restart(1, 500);
        int[] gains = {1, 0, 1, 0};
        for (int gain : gains) {
            Check.due("a tick", wheel.run(1), gain);
            Check.due("A moves forward, B back, to position", wheel.count(1), gain + 1);
        }
        Check.due("100 ticks", wheel.run(96), -34);
        int[] cycle = {0, 1000, -228};
        for (int what = 0; what <= 2; what++) {
            Check.due("cycle(" + what + ")", wheel.cycle(what), cycle[what]);
        }
        dueChances(wheel);
        dueAverage("of AB", wheel, -104016, 431395);
        dueBest("of all levers", wheel, Wheels.numberOf("BC"), 6, 355);
        wheel.pawl(0, true);
        wheel.pawl(2, true);
        dueAverage("of AB with pawls", wheel, 50, 453);
        dueBest("with pawls", wheel, Wheels.numberOf("ABC"), 104, 855);
        Check.due("50 ticks with pawls", wheel.run(50), -29);
        wheel.gear(0, false);
        dueAverage("of AB without A", wheel, 0, 1);
        dueBest("without A", wheel, Wheels.numberOf("BBC"), 1612, 20225);
        Check.due("50 ticks, held by a pawl", wheel.run(50), -29);
        Check.due("the mean gain", wheel.meanGain(), -29.0 / 200.0);
    }

    private static void dueChances(FlashRatchet wheel) {
        int[] chances = {296, 346, 204, 154};
        for (int position = 0; position <= 3; position++) {
            Check.due("chance(3, " + position + ")", wheel.chance(3, position), chances[position]);
        }
        Check.due("chanceOfGain(3, 0)", wheel.chanceOfGain(3, 0), 526);
        int[] outcomes = {64362, 19370, 16268};
        for (int what = 0; what <= 2; what++) {
            Check.due("game(1, 2, 5, " + what + ")", wheel.game(1, 2, 5, what), outcomes[what]);
        }
    }

    private static void dueAverage(String when, FlashRatchet wheel, long above, long below) {
        Check.due("numerator " + when, wheel.average(Wheels.numberOf("AB"), 0), above);
        Check.due("denominator " + when, wheel.average(Wheels.numberOf("AB"), 1), below);
    }

    private static void dueBest(String when, FlashRatchet wheel, long... parts) {
        for (int what = 0; what <= 2; what++) {
            Check.due("best(3, " + what + ") " + when, wheel.best(3, what), parts[what]);
        }
    }

    private static void theLastOf512Calls() {
        FlashRatchet wheel = new FlashRatchet();
        wheel.begin(2);
        wheel.setTable(0, 0, 0, 10);
        wheel.setTable(0, 1, 0, 10);
        for (int call = 4; call <= 511; call++) {
            wheel.run(500);
        }
        Check.due("the gain of 508 runs", wheel.count(5), 254000);
        FlashRatchet hard = Start.ON_4.wheel();
        long digest = hard.digest();
        for (int call = 0; call < 300; call++) {
            Check.due("digest() again and again", hard.digest(), digest);
        }
    }

    private static void theLastOf512RefusedCalls() {
        FlashRatchet wheel = new FlashRatchet();
        for (int call = 1; call <= 511; call++) {
            Refused.dueException("call " + call, wheel, Check.ARGUMENT, each -> each.run(0));
        }
        Check.due("digest of the last call", wheel.digest(), new FlashRatchet().digest());
    }
}
