/** The sentences of promises 1 to 8: a new object, what is set on the wheel, and runs. */
final class SettingSentences {
    private SettingSentences() {
    }

    static void all() {
        promises1And2();
        promise3();
        promises4And5();
        promise6();
        promise7();
        promise8();
    }

    private static void promises1And2() {
        String created = "Creates a wheel with 3 positions, in the state as told, and an empty buffer.";
        Sentence.test("Promise 1", created, SettingSentences::threePositionsAtFirst);
        Sentence.test("Promise 1", created, SettingSentences::anEmptyBufferAtFirst);
        Sentence.test("Promise 1", created, SettingSentences::twoObjectsHaveNothingInCommon);
        Sentence.test("Promise 2", "Begins with a new wheel.", SettingSentences::nothingIsLeftOfTheOldWheel);
        Sentence.test("Promise 2", "The buffer stays.", SettingSentences::theBufferStaysBehindBegin);
        Sentence.test("Promise 2", "positions: 2 to 4", SettingSentences::twoToFourPositions);
        Sentence.test("Promise 2", "Returns the previous number of positions.", SettingSentences::previousPositions);
        Sentence.test("Promise 2", "Throws IllegalArgumentException if positions is not 2 to 4",
                SettingSentences::noOtherPositions);
    }

    private static void promise3() {
        Sentence.test("Promise 3", "Sets the numbers of a lever for a position.", SettingSentences::onlyTheseNumbersAreSet);
        Sentence.test("Promise 3", "lever: its number", SettingSentences::firstAndLastLeverOfATable);
        Sentence.test("Promise 3", "position: a position", SettingSentences::firstAndLastPositionOfATable);
        Sentence.test("Promise 3", "back: 0 to 10", SettingSentences::leastAndGreatestBack);
        Sentence.test("Promise 3", "forward: 0 to 10", SettingSentences::leastAndGreatestForward);
        Sentence.test("Promise 3", "Returns 100 times the previous back plus the previous forward.",
                SettingSentences::previousNumbers);
        String index = "Throws IndexOutOfBoundsException if the lever or the position does not exist";
        Sentence.test("Promise 3", index, SettingSentences::noSuchLeverOfATable);
        Sentence.test("Promise 3", index, SettingSentences::noSuchPositionOfATable);
        String argument = "Throws IllegalArgumentException if back or forward is out of range, or their sum is greater than 10";
        Sentence.test("Promise 3", argument, SettingSentences::backOutOfRange);
        Sentence.test("Promise 3", argument, SettingSentences::forwardOutOfRange);
        Sentence.test("Promise 3", argument, SettingSentences::sumOf11);
        Sentence.test("Exceptions", "If several exceptions apply, the one that is named first in the throws clause is thrown.",
                SettingSentences::aTableWithAWrongPlaceAndWrongNumbers);
    }

    private static void promises4And5() {
        Sentence.test("Promise 4", "Gears a lever in or out.", SettingSentences::inAndOutAgain);
        Sentence.test("Promise 4", "lever: its number", SettingSentences::firstAndLastLeverOfAGear);
        Sentence.test("Promise 4", "in: true for in", SettingSentences::trueForIn);
        Sentence.test("Promise 4", "Returns how many levers are geared in afterwards.", SettingSentences::from3LeversTo0);
        Sentence.test("Promise 4", "Throws IndexOutOfBoundsException if the lever does not exist",
                SettingSentences::noSuchLeverOfAGear);
        Sentence.test("Promise 5", "Sets the pawl at a position, or takes it away.", SettingSentences::setAndTakenAwayAgain);
        Sentence.test("Promise 5", "position: a position", SettingSentences::firstAndLastPositionOfAPawl);
        Sentence.test("Promise 5", "set: true to set it", SettingSentences::trueToSet);
        Sentence.test("Promise 5", "Returns how many pawls are set afterwards.", SettingSentences::from0PawlsTo4);
        Sentence.test("Promise 5", "Throws IndexOutOfBoundsException if the position does not exist",
                SettingSentences::noSuchPositionOfAPawl);
    }

    private static void promise6() {
        Sentence.test("Promise 6", "Sets the present program.", SettingSentences::theProgramAlone);
        Sentence.test("Promise 6", "The index becomes 0.", SettingSentences::theIndexBehindSetProgram);
        Sentence.test("Promise 6", "program: the number of a program", SettingSentences::allNumbersOfPrograms);
        Sentence.test("Promise 6", "Returns the number of the previous program.", SettingSentences::previousProgram);
        Sentence.test("Promise 6", "Throws IllegalArgumentException if program is not the number of a program",
                SettingSentences::noNumberOfAProgram);
    }

    private static void promise7() {
        Sentence.test("Promise 7", "Puts the wheel to a position, and sets the seed.", SettingSentences::positionAndSeedAreSet);
        Sentence.test("Promise 7", "The index, the total gain and the number of ticks become 0.",
                SettingSentences::indexGainAndTicksBecome0);
        Sentence.test("Promise 7", "position: a position", SettingSentences::firstAndLastPositionToRestart);
        Sentence.test("Promise 7", "seed: 0 to 999", SettingSentences::firstAndLastSeedToRestart);
        Sentence.test("Promise 7", "Returns the previous total gain.", SettingSentences::previousGain);
        Sentence.test("Promise 7", "Throws IndexOutOfBoundsException if the position does not exist",
                SettingSentences::noSuchPositionToRestart);
        Sentence.test("Promise 7", "Throws IllegalArgumentException if seed is out of range", SettingSentences::noSuchSeed);
        Sentence.test("Exceptions", "If several exceptions apply, the one that is named first in the throws clause is thrown.",
                SettingSentences::aRestartWithAWrongPositionAndAWrongSeed);
    }

    private static void promise8() {
        Sentence.test("Promise 8", "Lets ticks pass.", SettingSentences::manyTicksAreAsManyTimesOne);
        Sentence.test("Promise 8", "ticks: 1 to 500", SettingSentences::oneTickAnd500);
        Sentence.test("Promise 8", "Returns the total gain afterwards.", SettingSentences::theTotalGainNotThatOfTheCall);
        Sentence.test("Promise 8", "Throws IllegalArgumentException if ticks is not 1 to 500", SettingSentences::noTickAnd501);
        String most = "Throws IllegalStateException if there would be more than 1000000 ticks";
        Sentence.test("Promise 8", most, SettingSentences::neverWithin512Calls);
        Sentence.test("Promise 8", most, SettingSentences::aMillionTicksAndOneMore);
        Sentence.test("Promise 8", most, SettingSentences::aMillionTicksAnewAfterRestart);
        Sentence.test("Exceptions", "If several exceptions apply, the one that is named first in the throws clause is thrown.",
                SettingSentences::aRunWithWrongTicksBeyondTheMost);
    }

    // ---- promises 1 and 2

    private static void threePositionsAtFirst() {
        FlashRatchet wheel = new FlashRatchet();
        Check.due("positions", wheel.count(0), 3);
        wheel.setTable(2, 2, 1, 1);
        Refused.dueException("position 3", wheel, Check.INDEX, each -> each.setTable(2, 3, 1, 1));
    }

    private static void anEmptyBufferAtFirst() {
        FlashRatchet wheel = new FlashRatchet();
        Check.due("no error", wheel.firstError(), 0);
        Refused.dueException("load()", wheel, Check.ARGUMENT, FlashRatchet::load);
        Check.due("its length", wheel.clearBuffer(), 0);
    }

    private static void twoObjectsHaveNothingInCommon() {
        FlashRatchet wheel = new FlashRatchet();
        long before = wheel.digest();
        Tour.of(Start.ON_4.wheel());
        Check.due("digest behind what another one has done", wheel.digest(), before);
        Check.due("digest of a later one", new FlashRatchet().digest(), before);
    }

    private static void nothingIsLeftOfTheOldWheel() {
        for (Start start : Start.values()) {
            for (int positions = 2; positions <= 4; positions++) {
                FlashRatchet wheel = start.wheel();
                wheel.begin(positions);
                wheel.clearBuffer();
                FlashRatchet fresh = new FlashRatchet();
                fresh.begin(positions);
                Check.dueThat("begin(" + positions + ") from " + start + " leaves something of the old wheel",
                        Tour.of(wheel).equals(Tour.of(fresh)));
            }
        }
    }

    private static void theBufferStaysBehindBegin() {
        for (int length : new int[] {0, 1, 59, 60}) {
            FlashRatchet wheel = new FlashRatchet();
            Check.append(wheel, "P:A;".repeat(15).substring(0, length));
            for (int positions = 2; positions <= 4; positions++) {
                wheel.begin(positions);
                Check.due("no error in " + length, wheel.firstError(), length);
            }
            Check.due("length", wheel.clearBuffer(), length);
        }
    }

    private static void twoToFourPositions() {
        FlashRatchet wheel = new FlashRatchet();
        for (int positions : new int[] {2, 3, 4, 4, 2, 2}) {
            wheel.begin(positions);
            Check.due("positions", wheel.count(0), positions);
        }
    }

    private static void previousPositions() {
        FlashRatchet wheel = new FlashRatchet();
        Check.due("begin(2)", wheel.begin(2), 3);
        Check.due("begin(2) again", wheel.begin(2), 2);
        Check.due("begin(4)", wheel.begin(4), 2);
        Check.due("begin(4) again", wheel.begin(4), 4);
        Check.due("begin(3)", wheel.begin(3), 4);
    }

    private static void noOtherPositions() {
        for (int wrong : Wheels.outside(2, 4)) {
            Refused.due("begin(" + wrong + ")", Check.ARGUMENT, wheel -> wheel.begin(wrong));
        }
        Refused.due("begin(0)", Check.ARGUMENT, wheel -> wheel.begin(0));
    }

    // ---- promise 3

    private static void onlyTheseNumbersAreSet() {
        for (int place = 0; place < 12; place++) {
            FlashRatchet wheel = new FlashRatchet();
            wheel.begin(4);
            wheel.setTable(place / 4, place % 4, 7, 2);
            for (int other = 0; other < 12; other++) {
                Check.due("table(" + other / 4 + ", " + other % 4 + ") with " + place, wheel.table(other / 4, other % 4),
                        other == place ? 702 : 0);
            }
        }
    }

    private static void firstAndLastLeverOfATable() {
        FlashRatchet wheel = new FlashRatchet();
        Check.due("lever 0", wheel.setTable(0, 1, 1, 2), 0);
        Check.due("lever 2", wheel.setTable(2, 1, 3, 4), 0);
        Check.due("lever 0, set", wheel.table(0, 1), 102);
        Check.due("lever 2, set", wheel.table(2, 1), 304);
    }

    private static void firstAndLastPositionOfATable() {
        for (int positions = 2; positions <= 4; positions++) {
            FlashRatchet wheel = new FlashRatchet();
            wheel.begin(positions);
            Check.due("the first", wheel.setTable(1, 0, 1, 2), 0);
            Check.due("the last", wheel.setTable(1, positions - 1, 3, 4), 0);
            Check.due("the first, set", wheel.table(1, 0), 102);
            Check.due("the last, set", wheel.table(1, positions - 1), 304);
        }
    }

    private static void leastAndGreatestBack() {
        FlashRatchet wheel = new FlashRatchet();
        wheel.setTable(0, 0, 10, 0);
        Check.due("back 10", wheel.table(0, 0), 1000);
        wheel.setTable(0, 0, 0, 1);
        Check.due("back 0", wheel.table(0, 0), 1);
    }

    private static void leastAndGreatestForward() {
        FlashRatchet wheel = new FlashRatchet();
        wheel.setTable(0, 0, 0, 10);
        Check.due("forward 10", wheel.table(0, 0), 10);
        wheel.setTable(0, 0, 1, 0);
        Check.due("forward 0", wheel.table(0, 0), 100);
    }

    private static void previousNumbers() {
        FlashRatchet wheel = new FlashRatchet();
        Check.due("none before", wheel.setTable(1, 2, 10, 0), 0);
        Check.due("back 10 before", wheel.setTable(1, 2, 0, 10), 1000);
        Check.due("forward 10 before", wheel.setTable(1, 2, 5, 5), 10);
        Check.due("5 and 5 before", wheel.setTable(1, 2, 5, 5), 505);
        wheel.gear(1, false);
        wheel.pawl(2, true);
        Check.due("a gear and a pawl do not count", wheel.setTable(1, 2, 0, 0), 505);
        Check.due("0 and 0 before", wheel.setTable(1, 2, 1, 9), 0);
        Check.due("1 and 9 before", wheel.setTable(1, 2, 0, 0), 109);
    }

    private static void noSuchLeverOfATable() {
        for (int wrong : Wheels.outside(0, 2)) {
            Refused.due("setTable(" + wrong + ", 0, 1, 1)", Check.INDEX, wheel -> wheel.setTable(wrong, 0, 1, 1));
        }
    }

    private static void noSuchPositionOfATable() {
        for (int wrong : Wheels.outside(0, 3)) {
            Refused.due("setTable(0, " + wrong + ", 1, 1)", Check.INDEX, wheel -> wheel.setTable(0, wrong, 1, 1));
        }
        Refused.due("setTable(0, m, 1, 1)", Check.INDEX, wheel -> wheel.setTable(0, wheel.count(0), 1, 1));
    }

    private static void backOutOfRange() {
        for (int wrong : Wheels.outside(0, 10)) {
            Refused.due("setTable(1, 1, " + wrong + ", 0)", Check.ARGUMENT, wheel -> wheel.setTable(1, 1, wrong, 0));
        }
        Refused.due("setTable(1, 1, -1, 10)", Check.ARGUMENT, wheel -> wheel.setTable(1, 1, -1, 10));
    }

    private static void forwardOutOfRange() {
        for (int wrong : Wheels.outside(0, 10)) {
            Refused.due("setTable(1, 1, 0, " + wrong + ")", Check.ARGUMENT, wheel -> wheel.setTable(1, 1, 0, wrong));
        }
        Refused.due("setTable(1, 1, 10, -1)", Check.ARGUMENT, wheel -> wheel.setTable(1, 1, 10, -1));
    }

    private static void sumOf11() {
        for (int each = 1; each <= 10; each++) {
            int back = each;
            Refused.due("setTable(1, 1, " + back + ", " + (11 - back) + ")", Check.ARGUMENT,
                    wheel -> wheel.setTable(1, 1, back, 11 - back));
        }
        Refused.due("a sum that overflows to -2", Check.ARGUMENT,
                wheel -> wheel.setTable(1, 1, Integer.MAX_VALUE, Integer.MAX_VALUE));
        Refused.due("a sum that overflows to 0", Check.ARGUMENT,
                wheel -> wheel.setTable(1, 1, Integer.MIN_VALUE, Integer.MIN_VALUE));
    }

    private static void aTableWithAWrongPlaceAndWrongNumbers() {
        Refused.due("setTable(3, 0, 11, 0)", Check.INDEX, wheel -> wheel.setTable(3, 0, 11, 0));
        Refused.due("setTable(-1, 0, 0, -1)", Check.INDEX, wheel -> wheel.setTable(-1, 0, 0, -1));
        Refused.due("setTable(0, m, 6, 5)", Check.INDEX, wheel -> wheel.setTable(0, wheel.count(0), 6, 5));
        Refused.due("setTable(0, -1, 6, 5)", Check.INDEX, wheel -> wheel.setTable(0, -1, 6, 5));
    }

    // ---- promises 4 and 5

    private static void inAndOutAgain() {
        for (int lever = 0; lever <= 2; lever++) {
            FlashRatchet wheel = new FlashRatchet();
            wheel.gear(lever, false);
            Check.due("out", wheel.count(7), 7 - (1 << lever));
            wheel.gear(lever, true);
            Check.due("in", wheel.count(7), 7);
        }
    }

    private static void firstAndLastLeverOfAGear() {
        FlashRatchet wheel = new FlashRatchet();
        wheel.gear(0, false);
        Check.due("without lever 0", wheel.count(7), 6);
        wheel.gear(2, false);
        Check.due("without lever 2", wheel.count(7), 2);
    }

    private static void trueForIn() {
        FlashRatchet wheel = new FlashRatchet();
        Check.due("in what is in", wheel.gear(1, true), 3);
        Check.due("out", wheel.gear(1, false), 2);
        Check.due("out what is out", wheel.gear(1, false), 2);
        Check.due("in", wheel.gear(1, true), 3);
    }

    private static void from3LeversTo0() {
        FlashRatchet wheel = new FlashRatchet();
        for (int lever = 0; lever <= 2; lever++) {
            Check.due("one less", wheel.gear(lever, false), 2 - lever);
        }
        for (int lever = 0; lever <= 2; lever++) {
            Check.due("one more", wheel.gear(lever, true), lever + 1);
        }
    }

    private static void noSuchLeverOfAGear() {
        for (int wrong : Wheels.outside(0, 2)) {
            Refused.due("gear(" + wrong + ", true)", Check.INDEX, wheel -> wheel.gear(wrong, true));
            Refused.due("gear(" + wrong + ", false)", Check.INDEX, wheel -> wheel.gear(wrong, false));
        }
    }

    private static void setAndTakenAwayAgain() {
        for (int position = 0; position <= 3; position++) {
            FlashRatchet wheel = new FlashRatchet();
            wheel.begin(4);
            wheel.pawl(position, true);
            Check.due("set", wheel.count(8), 1 << position);
            wheel.pawl(position, false);
            Check.due("taken away", wheel.count(8), 0);
        }
    }

    private static void firstAndLastPositionOfAPawl() {
        for (int positions = 2; positions <= 4; positions++) {
            FlashRatchet wheel = new FlashRatchet();
            wheel.begin(positions);
            wheel.pawl(0, true);
            Check.due("at the first", wheel.count(8), 1);
            wheel.pawl(positions - 1, true);
            Check.due("at the last, too", wheel.count(8), 1 + (1 << (positions - 1)));
        }
    }

    private static void trueToSet() {
        FlashRatchet wheel = new FlashRatchet();
        Check.due("taken away where there is none", wheel.pawl(1, false), 0);
        Check.due("set", wheel.pawl(1, true), 1);
        Check.due("set where there is one", wheel.pawl(1, true), 1);
        Check.due("taken away", wheel.pawl(1, false), 0);
    }

    private static void from0PawlsTo4() {
        FlashRatchet wheel = new FlashRatchet();
        wheel.begin(4);
        for (int position = 0; position <= 3; position++) {
            Check.due("one more", wheel.pawl(position, true), position + 1);
        }
        for (int position = 0; position <= 3; position++) {
            Check.due("one less", wheel.pawl(position, false), 3 - position);
        }
    }

    private static void noSuchPositionOfAPawl() {
        for (int wrong : Wheels.outside(0, 3)) {
            Refused.due("pawl(" + wrong + ", true)", Check.INDEX, wheel -> wheel.pawl(wrong, true));
            Refused.due("pawl(" + wrong + ", false)", Check.INDEX, wheel -> wheel.pawl(wrong, false));
        }
        Refused.due("pawl(m, true)", Check.INDEX, wheel -> wheel.pawl(wheel.count(0), true));
        Refused.due("pawl(m, false)", Check.INDEX, wheel -> wheel.pawl(wheel.count(0), false));
    }

    // ---- promise 6

    private static void theProgramAlone() {
        for (Start start : Start.values()) {
            FlashRatchet wheel = start.wheel();
            int[] before = new int[10];
            for (int what = 0; what <= 9; what++) {
                before[what] = wheel.count(what);
            }
            wheel.setProgram(Wheels.numberOf("BC"));
            before[2] = Wheels.numberOf("BC");
            before[3] = 0;
            before[9] = 2;
            for (int what = 0; what <= 9; what++) {
                Check.due(start + ", count(" + what + ")", wheel.count(what), before[what]);
            }
        }
    }

    private static void theIndexBehindSetProgram() {
        for (int ticks = 0; ticks <= 4; ticks++) {
            FlashRatchet wheel = new FlashRatchet();
            wheel.setProgram(Wheels.numberOf("ABCA"));
            wheel.run(4);
            if (ticks > 0) {
                wheel.run(ticks);
            }
            Check.due("index before", wheel.count(3), ticks % 4);
            wheel.setProgram(Wheels.numberOf("ABCA"));
            Check.due("index behind the same program", wheel.count(3), 0);
        }
    }

    private static void allNumbersOfPrograms() {
        FlashRatchet wheel = new FlashRatchet();
        for (String program : Wheels.programs()) {
            wheel.setProgram(Wheels.numberOf(program));
            Check.due(program, wheel.count(2), Wheels.numberOf(program));
            Check.due("length of " + program, wheel.count(9), program.length());
        }
    }

    private static void previousProgram() {
        FlashRatchet wheel = new FlashRatchet();
        Check.due("A before", wheel.setProgram(255), 1);
        Check.due("CCCC before", wheel.setProgram(255), 255);
        Check.due("CCCC before, too", wheel.setProgram(1), 255);
        Check.load(wheel, "P:BBBB");
        Check.due("a program by a text before", wheel.setProgram(3), 170);
        wheel.begin(2);
        Check.due("begin before", wheel.setProgram(2), 1);
    }

    private static void noNumberOfAProgram() {
        for (int wrong : Wheels.noPrograms()) {
            Refused.due("setProgram(" + wrong + ")", Check.ARGUMENT, wheel -> wheel.setProgram(wrong));
        }
        for (int number = 1; number < 1400; number++) {
            int wrong = number;
            if (!Wheels.isProgram(number)) {
                Refused.dueException("setProgram(" + number + ")", new FlashRatchet(), Check.ARGUMENT,
                        wheel -> wheel.setProgram(wrong));
            }
        }
    }

    // ---- promise 7

    private static void positionAndSeedAreSet() {
        for (Start start : Start.values()) {
            FlashRatchet wheel = start.wheel();
            int program = wheel.count(2);
            int levers = wheel.count(7);
            int pawls = wheel.count(8);
            int numbers = wheel.table(1, 1);
            wheel.restart(1, 500);
            Check.due(start + ", position", wheel.count(1), 1);
            Check.due(start + ", seed", wheel.count(4), 500);
            Check.due(start + ", the program stays", wheel.count(2), program);
            Check.due(start + ", the gears stay", wheel.count(7), levers);
            Check.due(start + ", the pawls stay", wheel.count(8), pawls);
            Check.due(start + ", the tables stay", wheel.table(1, 1), numbers);
        }
    }

    private static void indexGainAndTicksBecome0() {
        FlashRatchet wheel = Wheels.forwardBackStay();
        wheel.setProgram(Wheels.numberOf("AAC"));
        wheel.run(5);
        Check.due("index before", wheel.count(3), 2);
        wheel.restart(0, 0);
        Check.due("index", wheel.count(3), 0);
        Check.due("gain", wheel.count(5), 0);
        Check.due("ticks", wheel.count(6), 0);
        Check.due("mean gain", wheel.meanGain(), 0.0);
        wheel.setProgram(2);
        wheel.run(5);
        wheel.restart(0, 0);
        Check.due("a gain below 0 becomes 0", wheel.count(5), 0);
    }

    private static void firstAndLastPositionToRestart() {
        for (int positions = 2; positions <= 4; positions++) {
            FlashRatchet wheel = new FlashRatchet();
            wheel.begin(positions);
            wheel.restart(positions - 1, 0);
            Check.due("the last", wheel.count(1), positions - 1);
            wheel.restart(0, 0);
            Check.due("the first", wheel.count(1), 0);
        }
    }

    private static void firstAndLastSeedToRestart() {
        FlashRatchet wheel = new FlashRatchet();
        wheel.restart(0, 999);
        Check.due("the last", wheel.count(4), 999);
        wheel.restart(0, 0);
        Check.due("the first", wheel.count(4), 0);
    }

    private static void previousGain() {
        FlashRatchet wheel = Wheels.forwardBackStay();
        Check.due("none", wheel.restart(0, 0), 0);
        wheel.run(500);
        wheel.run(1);
        Check.due("501 forward", wheel.restart(0, 0), 501);
        Check.due("0 again", wheel.restart(0, 0), 0);
        wheel.setProgram(2);
        wheel.run(500);
        Check.due("500 back", wheel.restart(3, 999), -500);
    }

    private static void noSuchPositionToRestart() {
        for (int wrong : Wheels.outside(0, 3)) {
            Refused.due("restart(" + wrong + ", 0)", Check.INDEX, wheel -> wheel.restart(wrong, 0));
        }
        Refused.due("restart(m, 0)", Check.INDEX, wheel -> wheel.restart(wheel.count(0), 0));
    }

    private static void noSuchSeed() {
        for (int wrong : Wheels.outside(0, 999)) {
            Refused.due("restart(0, " + wrong + ")", Check.ARGUMENT, wheel -> wheel.restart(0, wrong));
        }
    }

    private static void aRestartWithAWrongPositionAndAWrongSeed() {
        Refused.due("restart(-1, -1)", Check.INDEX, wheel -> wheel.restart(-1, -1));
        Refused.due("restart(m, 1000)", Check.INDEX, wheel -> wheel.restart(wheel.count(0), 1000));
    }

    // ---- promise 8

    private static void manyTicksAreAsManyTimesOne() {
        for (Start start : Start.values()) {
            FlashRatchet wheel = start.wheel();
            FlashRatchet other = start.wheel();
            for (int tick = 0; tick < 150; tick++) {
                other.run(1);
            }
            wheel.run(150);
            Check.due(start + ", digest", wheel.digest(), other.digest());
        }
    }

    private static void oneTickAnd500() {
        FlashRatchet wheel = Wheels.forwardBackStay();
        Check.due("run(1)", wheel.run(1), 1);
        Check.due("ticks", wheel.count(6), 1);
        Check.due("run(500)", wheel.run(500), 501);
        Check.due("ticks", wheel.count(6), 501);
        Check.due("position", wheel.count(1), 1);
    }

    private static void theTotalGainNotThatOfTheCall() {
        FlashRatchet wheel = Wheels.forwardBackStay();
        Check.due("3 forward", wheel.run(3), 3);
        wheel.setProgram(2);
        Check.due("2 back", wheel.run(2), 1);
        Check.due("1 more", wheel.run(1), 0);
        Check.due("4 more", wheel.run(4), -4);
        wheel.restart(0, 0);
        Check.due("after restart", wheel.run(1), -1);
    }

    private static void noTickAnd501() {
        for (int wrong : Wheels.outside(1, 500)) {
            Refused.due("run(" + wrong + ")", Check.ARGUMENT, wheel -> wheel.run(wrong));
        }
    }

    private static void neverWithin512Calls() {
        FlashRatchet wheel = Wheels.even(2, 0, 0, 10);
        for (int call = 0; call < 500; call++) {
            Check.due("run(500), call " + call, wheel.run(500), 500 * (call + 1));
        }
        Check.due("ticks", wheel.count(6), 250000);
    }

    /** The document says nothing of an object after its 512th call, but its clause is kept there as well. */
    private static FlashRatchet afterMostTicksBut(int fewer) {
        FlashRatchet wheel = new FlashRatchet();
        for (int call = 0; call < 1999; call++) {
            wheel.run(500);
        }
        wheel.run(500 - fewer);
        return wheel;
    }

    private static void aMillionTicksAndOneMore() {
        for (int fewer = 0; fewer <= 1; fewer++) {
            FlashRatchet wheel = afterMostTicksBut(fewer);
            int tooMany = fewer + 1;
            Check.due("ticks", wheel.count(6), 1000000 - fewer);
            Refused.dueException("to 1000001 ticks", wheel, Check.STATE, each -> each.run(tooMany));
            Refused.dueException("500 ticks more", wheel, Check.STATE, each -> each.run(500));
            Check.dueThat("something has changed", Tour.of(wheel).equals(Tour.of(afterMostTicksBut(fewer))));
        }
        FlashRatchet wheel = afterMostTicksBut(1);
        wheel.run(1);
        Check.due("the last tick that is taken", wheel.count(6), 1000000);
    }

    private static void aMillionTicksAnewAfterRestart() {
        FlashRatchet wheel = afterMostTicksBut(0);
        wheel.restart(0, 0);
        wheel.run(500);
        Check.due("ticks", wheel.count(6), 500);
    }

    private static void aRunWithWrongTicksBeyondTheMost() {
        FlashRatchet wheel = afterMostTicksBut(0);
        for (int wrong : Wheels.outside(1, 500)) {
            Refused.dueException("run(" + wrong + ")", wheel, Check.ARGUMENT, each -> each.run(wrong));
        }
        Check.dueThat("something has changed", Tour.of(wheel).equals(Tour.of(afterMostTicksBut(0))));
    }
}
