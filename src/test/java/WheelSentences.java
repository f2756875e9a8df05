/** The sentences of "Description" on the wheel, its programs and its present state. */
final class WheelSentences {
    private WheelSentences() {
    }

    static void all() {
        theWheel();
        moves();
        programs();
        thePresentState();
    }

    private static void theWheel() {
        String round = "The wheel has m positions, 2 to 4, numbered from 0; forward leads from position p to (p + 1) mod m, "
                + "back from p to (p - 1) mod m.";
        Sentence.test("The wheel", round, WheelSentences::forwardFromTheLastPositionLeadsTo0);
        Sentence.test("The wheel", round, WheelSentences::backFrom0LeadsToTheLastPosition);
        Sentence.test("The wheel", round, WheelSentences::severalTimesRound);
        Sentence.test("The wheel", "At each position a pawl can be set.", WheelSentences::aPawlAtEachPosition);
        String levers = "There are three levers, numbered 0 to 2 and written A, B and C.";
        Sentence.test("The wheel", levers, WheelSentences::leversByNumberAndByLetter);
        Sentence.test("The wheel", levers, WheelSentences::noLetterBesideThem);
        Sentence.test("The wheel", "Each lever has, for each position, two numbers, back and forward, from 0 to 10, whose sum "
                + "is at most 10.", WheelSentences::allPairsOfNumbers);
        Sentence.test("The wheel", "A lever is geared in or geared out.", WheelSentences::allGears);
    }

    private static void moves() {
        String threeMoves = "At a tick with a lever at a position there are three moves: the wheel moves back with the chance "
                + "back / 10, forward with the chance forward / 10, otherwise it stays.";
        Sentence.test("The wheel", threeMoves, WheelSentences::chancesOfTheThreeMoves);
        Sentence.test("The wheel", threeMoves, WheelSentences::bothMovesLeadToTheSamePlaceOn2Positions);
        Sentence.test("The wheel", threeMoves, WheelSentences::eachDrawComesAHundredTimesInAThousand);
        String pawl = "If the pawl at this position is set, the wheel stays instead of moving back.";
        Sentence.test("The wheel", pawl, WheelSentences::aPawlHoldsAtItsPosition);
        Sentence.test("The wheel", pawl, WheelSentences::aPawlDoesNotHoldForward);
        Sentence.test("The wheel", pawl, WheelSentences::aPawlElsewhereDoesNotHold);
        Sentence.test("The wheel", pawl, WheelSentences::aPawlCountsInChancesAndAverages);
        String gear = "If the lever is geared out, the wheel stays.";
        Sentence.test("The wheel", gear, WheelSentences::aLeverThatIsOutMovesNothing);
        Sentence.test("The wheel", gear, WheelSentences::theOtherLeversMoveOn);
        Sentence.test("The wheel", gear, WheelSentences::aLeverThatIsOutCountsInChancesAndAverages);
        String gain = "A move forward counts as a gain of 1, a move back as a gain of -1.";
        Sentence.test("The wheel", gain, WheelSentences::gainsAcrossTheEnds);
        Sentence.test("The wheel", gain, WheelSentences::gainsTellTheMovesOn2Positions);
    }

    private static void programs() {
        String sequence = "A program is a sequence of 1 to 4 levers.";
        Sentence.test("Programs", sequence, WheelSentences::oneLever);
        Sentence.test("Programs", sequence, WheelSentences::fourLevers);
        Sentence.test("Programs", sequence, WheelSentences::noLeverAndFiveLevers);
        Sentence.test("Programs", "Its levers are used one after another, one at each tick, and then again from the beginning.",
                WheelSentences::leversInTheirOrderAndAgain);
        String number = "A program is also told as a number: for its levers from left to right, beginning with 0, the number "
                + "becomes 4 * number + lever + 1.";
        Sentence.test("Programs", number, WheelSentences::numbersOfAllPrograms);
        Sentence.test("Programs", number, WheelSentences::leastAndGreatestNumbersOfEachLength);
    }

    private static void thePresentState() {
        String parts = "There are a present position, a present program, an index in it (the lever that is used next), a seed "
                + "from 0 to 999, a total gain, and the number of ticks.";
        Sentence.test("The present state", parts, WheelSentences::theLeverThatIsUsedNext);
        Sentence.test("The present state", parts, WheelSentences::leastAndGreatestSeed);
        String first = "At first, and after begin, there are no pawls, all numbers of the tables are 0, all levers are geared "
                + "in, the program is A, and all numbers of the state are 0.";
        Sentence.test("The present state", first, WheelSentences::atFirst);
        Sentence.test("The present state", first, WheelSentences::afterBegin);
        String seed = "When a tick passes, the seed becomes (141 * seed + 187) mod 1000, and then the draw is seed / 100, "
                + "rounded down.";
        Sentence.test("The present state", seed, WheelSentences::allSeeds);
        Sentence.test("The present state", seed, WheelSentences::theDrawIsRoundedDown);
        String move = "The move with the lever that is used next is back if the draw is less than back, forward if it is at "
                + "least 10 - forward, otherwise the wheel stays (the pawl and the gear count as told).";
        Sentence.test("The present state", move, WheelSentences::allDrawsWithAllNumbers);
        Sentence.test("The present state", move, WheelSentences::aDrawForBackIsNeverForwardUnderAPawl);
        Sentence.test("The present state", move, WheelSentences::noDrawMovesALeverThatIsOut);
        String index = "The move is added to the total gain, and the index increases by 1; behind the last lever of the "
                + "program it becomes 0.";
        Sentence.test("The present state", index, WheelSentences::theIndexBehindTheLastLever);
        Sentence.test("The present state", index, WheelSentences::theGainGrowsAndFallsThrough0);
    }

    // ---- the wheel

    private static void forwardFromTheLastPositionLeadsTo0() {
        for (int positions = 2; positions <= 4; positions++) {
            FlashRatchet wheel = Wheels.even(positions, 0, 0, 10);
            for (int from = 0; from < positions; from++) {
                int to = from == positions - 1 ? 0 : from + 1;
                wheel.restart(from, 0);
                Check.due("of " + positions + ", chance of " + from + " to " + to, wheel.chance(1, to), 10);
                wheel.run(1);
                Check.due("of " + positions + ", forward from " + from, wheel.count(1), to);
            }
        }
    }

    private static void backFrom0LeadsToTheLastPosition() {
        for (int positions = 2; positions <= 4; positions++) {
            FlashRatchet wheel = Wheels.even(positions, 0, 10, 0);
            for (int from = 0; from < positions; from++) {
                int to = from == 0 ? positions - 1 : from - 1;
                wheel.restart(from, 0);
                Check.due("of " + positions + ", chance of " + from + " to " + to, wheel.chance(1, to), 10);
                wheel.run(1);
                Check.due("of " + positions + ", back from " + from, wheel.count(1), to);
            }
        }
    }

    private static void severalTimesRound() {
        for (int positions = 2; positions <= 4; positions++) {
            FlashRatchet forward = Wheels.even(positions, 0, 0, 10);
            forward.run(3 * positions);
            Check.due("three times round", forward.count(1), 0);
            forward.run(3 * positions - 1);
            Check.due("all but one step of three times round", forward.count(1), positions - 1);
            FlashRatchet back = Wheels.even(positions, 0, 10, 0);
            back.run(3 * positions);
            Check.due("three times round, back", back.count(1), 0);
            back.run(3 * positions - 1);
            Check.due("all but one step of three times round, back", back.count(1), 1);
        }
    }

    private static void aPawlAtEachPosition() {
        for (int positions = 2; positions <= 4; positions++) {
            FlashRatchet wheel = Wheels.even(positions, 0, 10, 0);
            for (int position = 0; position < positions; position++) {
                Check.due("a pawl alone", wheel.pawl(position, true), 1);
                Check.due("its bit", wheel.count(8), 1 << position);
                Check.due("none again", wheel.pawl(position, false), 0);
            }
            for (int position = 0; position < positions; position++) {
                Check.due("one more pawl", wheel.pawl(position, true), position + 1);
            }
            Check.due("pawls everywhere", wheel.count(8), (1 << positions) - 1);
            Check.due("nothing moves back", wheel.run(500), 0);
        }
    }

    private static void leversByNumberAndByLetter() {
        FlashRatchet wheel = Wheels.of(2, "A:11,12;B:21,22;C:31,32");
        for (int lever = 0; lever <= 2; lever++) {
            Check.due("lever " + lever, wheel.table(lever, 0), 100 * (lever + 1) + 1);
            Check.due("lever " + lever, wheel.table(lever, 1), 100 * (lever + 1) + 2);
        }
        Refused.due("table(-1, 0)", Check.INDEX, each -> each.table(-1, 0));
        Refused.due("table(3, 0)", Check.INDEX, each -> each.table(3, 0));
    }

    private static void noLetterBesideThem() {
        FlashRatchet wheel = new FlashRatchet();
        for (char wrong : "@Dabcd012".toCharArray()) {
            wheel.clearBuffer();
            Check.append(wheel, wrong + ":");
            Check.due("firstError() of " + wrong + ":", wheel.firstError(), 0);
            wheel.clearBuffer();
            Check.append(wheel, "P:" + wrong);
            Check.due("firstError() of P:" + wrong, wheel.firstError(), 2);
        }
    }

    private static void allPairsOfNumbers() {
        for (int place = 0; place < 12; place++) {
            int lever = place / 4;
            int position = place % 4;
            FlashRatchet wheel = new FlashRatchet();
            wheel.begin(4);
            for (int back = -1; back <= 11; back++) {
                for (int forward = -1; forward <= 11; forward++) {
                    trySetTable(wheel, new int[] {lever, position, back, forward});
                }
            }
        }
    }

    private static void trySetTable(FlashRatchet wheel, int[] set) {
        String call = "setTable(" + set[0] + ", " + set[1] + ", " + set[2] + ", " + set[3] + ")";
        int before = wheel.table(set[0], set[1]);
        if (set[2] >= 0 && set[3] >= 0 && set[2] + set[3] <= 10) {
            Check.due(call, wheel.setTable(set[0], set[1], set[2], set[3]), before);
            Check.due("table after " + call, wheel.table(set[0], set[1]), 100 * set[2] + set[3]);
        } else {
            Refused.dueException(call, wheel, Check.ARGUMENT, each -> each.setTable(set[0], set[1], set[2], set[3]));
            Check.due("table after " + call, wheel.table(set[0], set[1]), before);
        }
    }

    private static void allGears() {
        FlashRatchet wheel = new FlashRatchet();
        for (int gears = 0; gears <= 7; gears++) {
            for (int lever = 0; lever <= 2; lever++) {
                wheel.gear(lever, (gears >> lever & 1) == 1);
            }
            Check.due("the levers that are in", wheel.count(7), gears);
        }
    }

    // ---- moves

    private static void chancesOfTheThreeMoves() {
        FlashRatchet wheel = new FlashRatchet();
        wheel.restart(1, 0);
        for (int back = 0; back <= 10; back++) {
            for (int forward = 0; back + forward <= 10; forward++) {
                wheel.setTable(0, 1, back, forward);
                String numbers = back + " and " + forward;
                Check.due("back with " + numbers, wheel.chance(1, 0), back);
                Check.due("forward with " + numbers, wheel.chance(1, 2), forward);
                Check.due("stays with " + numbers, wheel.chance(1, 1), 10 - back - forward);
            }
        }
    }

    private static void bothMovesLeadToTheSamePlaceOn2Positions() {
        FlashRatchet wheel = new FlashRatchet();
        wheel.begin(2);
        for (int back = 0; back <= 10; back++) {
            for (int forward = 0; back + forward <= 10; forward++) {
                wheel.setTable(0, 0, back, forward);
                Check.due("away with " + back + " and " + forward, wheel.chance(1, 1), back + forward);
                Check.due("forward with " + back + " and " + forward, wheel.chanceOfGain(1, 1), forward);
            }
        }
    }

    private static void eachDrawComesAHundredTimesInAThousand() {
        for (int back = 0; back <= 10; back++) {
            FlashRatchet wheel = new FlashRatchet();
            for (int forward = 0; back + forward <= 10; forward++) {
                Wheels.setAll(wheel, 0, back, forward);
                int gain = 100 * (forward - back);
                int turns = gain % 3 == 0 ? 1 : 3;
                Check.due("ticks with " + back + " and " + forward, wheel.cycle(1), 1000 * turns);
                Check.due("gain with " + back + " and " + forward, wheel.cycle(2), gain * turns);
            }
        }
    }

    private static void aPawlHoldsAtItsPosition() {
        for (int positions = 2; positions <= 4; positions++) {
            for (int position = 0; position < positions; position++) {
                FlashRatchet wheel = Wheels.even(positions, 0, 10, 0);
                wheel.pawl(position, true);
                wheel.restart(position, 0);
                Check.due("held at " + position + " of " + positions, wheel.run(3), 0);
                Check.due("still there", wheel.count(1), position);
                Check.due("the seed goes on", wheel.count(4), 301);
                Check.due("the ticks go on", wheel.count(6), 3);
                wheel.pawl(position, false);
                Check.due("no longer held", wheel.run(1), -1);
            }
        }
    }

    private static void aPawlDoesNotHoldForward() {
        for (int positions = 2; positions <= 4; positions++) {
            FlashRatchet wheel = Wheels.even(positions, 0, 0, 10);
            for (int position = 0; position < positions; position++) {
                wheel.pawl(position, true);
            }
            Check.due("forward with pawls everywhere", wheel.run(500), 500);
        }
    }

    private static void aPawlElsewhereDoesNotHold() {
        for (int positions = 2; positions <= 4; positions++) {
            for (int from = 0; from < positions; from++) {
                FlashRatchet wheel = Wheels.even(positions, 0, 10, 0);
                for (int position = 0; position < positions; position++) {
                    wheel.pawl(position, position != from);
                }
                wheel.restart(from, 0);
                Check.due("back from " + from + " of " + positions, wheel.run(1), -1);
                Check.due("and held at the next position", wheel.run(1), -1);
            }
        }
    }

    private static void aPawlCountsInChancesAndAverages() {
        FlashRatchet wheel = Wheels.even(2, 0, 10, 0);
        wheel.pawl(0, true);
        Check.due("chance", wheel.chance(15, 0), Wheels.tenToThe(15));
        Check.due("chanceOfGain", wheel.chanceOfGain(15, 0), Wheels.tenToThe(15));
        Check.due("game", wheel.game(1, 1, 15, 0), 0);
        Check.due("cycle", wheel.cycle(2), 0);
        Check.due("share of 0", wheel.share(1, 0, 0), 1);
        Check.due("average", wheel.average(1, 0), 0);
        wheel.pawl(1, true);
        Check.due("classes", wheel.classes(1), 2);
        wheel.pawl(0, false);
        wheel.pawl(1, false);
        Check.due("average without pawls", wheel.average(1, 0), -1);
    }

    private static void aLeverThatIsOutMovesNothing() {
        for (int lever = 0; lever <= 2; lever++) {
            for (int forward = 0; forward <= 10; forward += 10) {
                FlashRatchet wheel = Wheels.even(4, lever, 10 - forward, forward);
                wheel.setProgram(lever + 1);
                wheel.gear(lever, false);
                Check.due("out", wheel.run(500), 0);
                Check.due("it has not moved", wheel.count(1), 0);
                Check.due("the ticks go on", wheel.count(6), 500);
                Check.due("the seed goes on", wheel.count(4), 500);
                Check.due("its numbers stay", wheel.table(lever, 3), 100 * (10 - forward) + forward);
                wheel.gear(lever, true);
                Check.due("in", wheel.run(1), forward == 10 ? 1 : -1);
            }
        }
    }

    private static void theOtherLeversMoveOn() {
        FlashRatchet wheel = Wheels.forwardBackStay();
        wheel.setProgram(Wheels.numberOf("AB"));
        wheel.gear(1, false);
        Check.due("only A moves", wheel.run(9), 5);
        Check.due("B is used next", wheel.count(3), 1);
        wheel.gear(1, true);
        wheel.gear(0, false);
        Check.due("only B moves", wheel.run(9), 0);
    }

    private static void aLeverThatIsOutCountsInChancesAndAverages() {
        FlashRatchet wheel = Wheels.even(4, 0, 0, 10);
        wheel.gear(0, false);
        Check.due("chance", wheel.chance(15, 0), Wheels.tenToThe(15));
        Check.due("chanceOfGain", wheel.chanceOfGain(15, 1), 0);
        Check.due("game", wheel.game(1, 1, 15, 2), Wheels.tenToThe(15));
        Check.due("cycle", wheel.cycle(2), 0);
        Check.due("classes", wheel.classes(1), 4);
        wheel.gear(0, true);
        Check.due("classes with A", wheel.classes(1), 1);
    }

    private static void gainsAcrossTheEnds() {
        for (int positions = 2; positions <= 4; positions++) {
            FlashRatchet wheel = Wheels.even(positions, 0, 0, 10);
            Wheels.setAll(wheel, 1, 10, 0);
            wheel.restart(positions - 1, 0);
            Check.due("forward across the end", wheel.run(1), 1);
            wheel.setProgram(2);
            Check.due("and back again", wheel.run(1), 0);
            wheel.restart(0, 0);
            Check.due("back across the end", wheel.run(1), -1);
        }
    }

    private static void gainsTellTheMovesOn2Positions() {
        FlashRatchet wheel = Wheels.of(2, "A:23,23");
        Check.due("forward", wheel.chanceOfGain(1, 1), 3);
        Check.due("not back", wheel.chanceOfGain(1, 0), 8);
        Check.due("lost", wheel.game(1, 1, 1, 0), 2);
        Check.due("won", wheel.game(1, 1, 1, 1), 3);
    }

    // ---- programs

    private static void oneLever() {
        FlashRatchet wheel = new FlashRatchet();
        for (String program : new String[] {"A", "B", "C"}) {
            Check.load(wheel, "P:" + program);
            Check.due("length of " + program, wheel.count(9), 1);
            wheel.setProgram(Wheels.numberOf(program));
            Check.due("length of " + program + " by its number", wheel.count(9), 1);
        }
    }

    private static void fourLevers() {
        FlashRatchet wheel = new FlashRatchet();
        for (String program : new String[] {"AAAA", "CCCC", "ABCA"}) {
            Check.load(wheel, "P:" + program);
            Check.due("length of " + program, wheel.count(9), 4);
            wheel.setProgram(Wheels.numberOf(program));
            Check.due("length of " + program + " by its number", wheel.count(9), 4);
        }
    }

    private static void noLeverAndFiveLevers() {
        Refused.due("setProgram of no lever", Check.ARGUMENT, wheel -> wheel.setProgram(0));
        Refused.due("setProgram of AAAAA", Check.ARGUMENT, wheel -> wheel.setProgram(341));
        Refused.due("setProgram of CCCCC", Check.ARGUMENT, wheel -> wheel.setProgram(1023));
        FlashRatchet wheel = new FlashRatchet();
        Check.append(wheel, "P:");
        Refused.dueException("load() of P:", wheel, Check.ARGUMENT, FlashRatchet::load);
        Check.append(wheel, "AAAAA");
        Check.due("firstError() of P:AAAAA", wheel.firstError(), 6);
        Refused.dueException("load() of P:AAAAA", wheel, Check.ARGUMENT, FlashRatchet::load);
    }

    private static void leversInTheirOrderAndAgain() {
        for (String program : Wheels.programs()) {
            FlashRatchet wheel = Wheels.forwardBackStay();
            wheel.setProgram(Wheels.numberOf(program));
            int gain = 0;
            for (int tick = 0; tick < 3 * program.length() + 1; tick++) {
                char letter = program.charAt(tick % program.length());
                gain += letter == 'A' ? 1 : letter == 'B' ? -1 : 0;
                Check.due(program + ", tick " + tick, wheel.run(1), gain);
            }
        }
    }

    private static void numbersOfAllPrograms() {
        Check.due("programs", Wheels.programs().size(), 3 + 9 + 27 + 81);
        for (String program : Wheels.programs()) {
            FlashRatchet wheel = new FlashRatchet();
            Check.load(wheel, "P:" + program);
            Check.due(program, wheel.count(2), Wheels.numberOf(program));
        }
    }

    private static void leastAndGreatestNumbersOfEachLength() {
        int[] least = {1, 5, 21, 85};
        int[] greatest = {3, 15, 63, 255};
        FlashRatchet wheel = new FlashRatchet();
        for (int length = 1; length <= 4; length++) {
            wheel.setProgram(least[length - 1]);
            Check.due("length of " + least[length - 1], wheel.count(9), length);
            Check.load(wheel, "P:" + "AAAA".substring(0, length));
            Check.due("number of As", wheel.count(2), least[length - 1]);
            wheel.setProgram(greatest[length - 1]);
            Check.due("length of " + greatest[length - 1], wheel.count(9), length);
            Check.load(wheel, "P:" + "CCCC".substring(0, length));
            Check.due("number of Cs", wheel.count(2), greatest[length - 1]);
        }
    }

    // ---- the present state

    private static void theLeverThatIsUsedNext() {
        FlashRatchet wheel = Wheels.forwardBackStay();
        wheel.setProgram(Wheels.numberOf("CBA"));
        long[] gains = {0, -1, 1};
        for (int index = 0; index < 3; index++) {
            Check.due("index", wheel.count(3), index);
            Check.due("gain at index " + index, wheel.chanceOfGain(1, (int) gains[index]), 10);
            Check.due("no greater gain at index " + index, wheel.chanceOfGain(1, (int) gains[index] + 1), 0);
            wheel.run(1);
        }
    }

    private static void leastAndGreatestSeed() {
        FlashRatchet wheel = new FlashRatchet();
        wheel.restart(0, 999);
        Check.due("999", wheel.count(4), 999);
        wheel.run(1);
        Check.due("after 999", wheel.count(4), 46);
        wheel.restart(0, Wheels.seedBefore(0));
        wheel.run(1);
        Check.due("0 comes up", wheel.count(4), 0);
        wheel.restart(0, Wheels.seedBefore(999));
        wheel.run(1);
        Check.due("999 comes up", wheel.count(4), 999);
    }

    private static void dueBegun(String when, FlashRatchet wheel, int positions) {
        int[] counts = {positions, 0, 1, 0, 0, 0, 0, 7, 0, 1};
        for (int what = 0; what < counts.length; what++) {
            Check.due(when + ", count(" + what + ")", wheel.count(what), counts[what]);
        }
        for (int lever = 0; lever <= 2; lever++) {
            for (int position = 0; position < positions; position++) {
                Check.due(when + ", table(" + lever + ", " + position + ")", wheel.table(lever, position), 0);
            }
        }
        Check.due(when + ", meanGain()", wheel.meanGain(), 0.0);
    }

    private static void atFirst() {
        dueBegun("at first", new FlashRatchet(), 3);
    }

    private static void afterBegin() {
        for (Start start : Start.values()) {
            for (int positions = 2; positions <= 4; positions++) {
                FlashRatchet wheel = start.wheel();
                wheel.begin(positions);
                dueBegun(start + ", after begin(" + positions + ")", wheel, positions);
            }
        }
        FlashRatchet wheel = new FlashRatchet();
        wheel.begin(4);
        Wheels.setAll(wheel, 2, 5, 5);
        wheel.pawl(3, true);
        wheel.begin(2);
        wheel.begin(4);
        dueBegun("by way of a smaller wheel", wheel, 4);
    }

    private static void allSeeds() {
        for (int first = 0; first < 1000; first += 100) {
            FlashRatchet wheel = new FlashRatchet();
            for (int seed = first; seed < first + 100; seed++) {
                wheel.restart(0, seed);
                wheel.run(1);
                Check.due("the seed after " + seed, wheel.count(4), (141 * seed + 187) % 1000);
            }
        }
    }

    private static void theDrawIsRoundedDown() {
        FlashRatchet wheel = new FlashRatchet();
        for (int draw = 0; draw <= 9; draw++) {
            for (int seed : new int[] {100 * draw, 100 * draw + 99}) {
                wheel.setTable(0, 0, draw, 0);
                wheel.restart(0, Wheels.seedBefore(seed));
                Check.due("seed " + seed + " is not below back " + draw, wheel.run(1), 0);
                wheel.setTable(0, 0, draw + 1, 0);
                wheel.restart(0, Wheels.seedBefore(seed));
                Check.due("seed " + seed + " is below back " + (draw + 1), wheel.run(1), -1);
            }
        }
    }

    private static int moveOf(int draw, int back, int forward) {
        return draw < back ? -1 : draw >= 10 - forward ? 1 : 0;
    }

    private static void allDrawsWithAllNumbers() {
        for (int back = 0; back <= 10; back++) {
            FlashRatchet wheel = new FlashRatchet();
            for (int forward = 0; back + forward <= 10; forward++) {
                wheel.setTable(0, 1, back, forward);
                for (int draw = 0; draw <= 9; draw++) {
                    wheel.restart(1, Wheels.seedBefore(100 * draw + 50));
                    Check.due("draw " + draw + ", back " + back + ", forward " + forward, wheel.run(1),
                            moveOf(draw, back, forward));
                }
            }
        }
    }

    private static void aDrawForBackIsNeverForwardUnderAPawl() {
        for (int back = 0; back <= 10; back++) {
            FlashRatchet wheel = new FlashRatchet();
            wheel.pawl(1, true);
            wheel.setTable(0, 1, back, 10 - back);
            for (int draw = 0; draw <= 9; draw++) {
                wheel.restart(1, Wheels.seedBefore(100 * draw));
                Check.due("draw " + draw + ", back " + back + " with a pawl", wheel.run(1), draw < back ? 0 : 1);
            }
        }
    }

    private static void noDrawMovesALeverThatIsOut() {
        FlashRatchet wheel = Wheels.even(3, 0, 5, 5);
        wheel.gear(0, false);
        for (int draw = 0; draw <= 9; draw++) {
            wheel.restart(1, Wheels.seedBefore(100 * draw));
            Check.due("draw " + draw, wheel.run(1), 0);
        }
    }

    private static void theIndexBehindTheLastLever() {
        for (String program : new String[] {"A", "AB", "ABC", "ABCA"}) {
            FlashRatchet wheel = new FlashRatchet();
            wheel.setProgram(Wheels.numberOf(program));
            for (int tick = 0; tick < 9; tick++) {
                Check.due(program + " after " + tick + " ticks", wheel.count(3), tick % program.length());
                wheel.run(1);
            }
            wheel.run(500);
            Check.due(program + " after 509 ticks", wheel.count(3), 509 % program.length());
        }
    }

    private static void theGainGrowsAndFallsThrough0() {
        FlashRatchet wheel = Wheels.forwardBackStay();
        wheel.setProgram(2);
        wheel.run(2);
        Check.due("gain", wheel.count(5), -2);
        wheel.setProgram(1);
        wheel.run(2);
        Check.due("gain", wheel.count(5), 0);
        wheel.run(1);
        Check.due("gain", wheel.count(5), 1);
        wheel.setProgram(3);
        wheel.run(500);
        Check.due("gain of staying", wheel.count(5), 1);
    }
}
