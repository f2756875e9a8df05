/** The sentences of promises 13 to 16: how a run goes on, and exact chances. */
final class ChanceSentences {
    private ChanceSentences() {
    }

    static void all() {
        promise13();
        promise14();
        promise15();
        promise16();
    }

    private static void promise13() {
        Sentence.test("Promise 13", "Tells how the run goes on from the present state, if nothing is set.",
                ChanceSentences::asTheRunReallyGoesOn);
        Sentence.test("Promise 13", "Nothing is changed.", ChanceSentences::cycleChangesNothing);
        String situation = "A situation consists of position, index and seed.";
        Sentence.test("Promise 13", situation, ChanceSentences::thePositionBelongsToASituation);
        Sentence.test("Promise 13", situation, ChanceSentences::theIndexBelongsToASituation);
        Sentence.test("Promise 13", situation, ChanceSentences::gainAndTicksDoNotBelongToASituation);
        String what = "what: 0: the least number of ticks after which there is a situation that comes again later; 1: the "
                + "least number of ticks after which it comes again; 2: the gain in these ticks";
        Sentence.test("Promise 13", what, ChanceSentences::thePresentSituationComesAgain);
        Sentence.test("Promise 13", what, ChanceSentences::thePresentSituationDoesNotComeAgain);
        Sentence.test("Promise 13", what, ChanceSentences::longWayToTheCycle);
        Sentence.test("Promise 13", what, ChanceSentences::gainsOfCycles);
        Sentence.test("Promise 13", "Returns the number.", ChanceSentences::inAnyOrder);
        Sentence.test("Promise 13", "Throws IllegalArgumentException if what is not 0 to 2", ChanceSentences::noSuchCycle);
    }

    private static void promise14() {
        String chance = "Returns the chance that the wheel is at a position after some ticks.";
        Sentence.test("Promise 14", chance, ChanceSentences::fromThePresentPosition);
        Sentence.test("Promise 14", chance, ChanceSentences::fromThePresentIndex);
        Sentence.test("Promise 14", chance, ChanceSentences::chanceChangesNothing);
        Sentence.test("Promise 14", "ticks: 0 to 15", ChanceSentences::chanceAfter0Ticks);
        Sentence.test("Promise 14", "ticks: 0 to 15", ChanceSentences::chanceAfter15Ticks);
        Sentence.test("Promise 14", "position: a position", ChanceSentences::firstAndLastPositionOfAChance);
        String power = "Returns the chance times 10 to the power of ticks.";
        Sentence.test("Promise 14", power, ChanceSentences::allChancesTogether);
        Sentence.test("Promise 14", power, ChanceSentences::leastChance);
        Sentence.test("Promise 14", "Throws IllegalArgumentException if ticks is not 0 to 15",
                ChanceSentences::noSuchTicksOfAChance);
        Sentence.test("Promise 14", "Throws IndexOutOfBoundsException if the position does not exist",
                ChanceSentences::noSuchPositionOfAChance);
        Sentence.test("Exceptions", "If several exceptions apply, the one that is named first in the throws clause is thrown.",
                ChanceSentences::aChanceWithWrongTicksAndAWrongPosition);
    }

    private static void promise15() {
        String chance = "Returns the chance that the gain in some ticks is at least a number.";
        Sentence.test("Promise 15", chance, ChanceSentences::theGainFromNowOn);
        Sentence.test("Promise 15", chance, ChanceSentences::atLeastIsAsMuchOrMore);
        Sentence.test("Promise 15", "ticks: 0 to 15", ChanceSentences::gainIn0Ticks);
        Sentence.test("Promise 15", "ticks: 0 to 15", ChanceSentences::gainIn15Ticks);
        Sentence.test("Promise 15", "least: the number", ChanceSentences::leastBeyondAllGains);
        Sentence.test("Promise 15", "Returns the chance times 10 to the power of ticks.", ChanceSentences::certainGains);
        Sentence.test("Promise 15", "Throws IllegalArgumentException if ticks is not 0 to 15",
                ChanceSentences::noSuchTicksOfAGain);
    }

    private static void promise16() {
        String game = "Returns the chance of an outcome of a game: it is lost as soon as the gain is -money, and won as soon as "
                + "it is goal; it ends then, or after some ticks.";
        Sentence.test("Promise 16", game, ChanceSentences::whatIsLostIsNotWonLater);
        Sentence.test("Promise 16", game, ChanceSentences::whatIsWonIsNotLostLater);
        Sentence.test("Promise 16", game, ChanceSentences::theGameBeginsWithNoGain);
        Sentence.test("Promise 16", game, ChanceSentences::upAndDownBeforeItIsWon);
        Sentence.test("Promise 16", "money: 1 to 15", ChanceSentences::lostInTheLastTickOrNotYet);
        Sentence.test("Promise 16", "goal: 1 to 15", ChanceSentences::wonInTheLastTickOrNotYet);
        Sentence.test("Promise 16", "ticks: 0 to 15", ChanceSentences::gamesOf0And15Ticks);
        Sentence.test("Promise 16", "what: 0: it is lost; 1: it is won; 2: neither", ChanceSentences::threeOutcomes);
        Sentence.test("Promise 16", "Returns the chance times 10 to the power of ticks.",
                ChanceSentences::allOutcomesTogether);
        Sentence.test("Promise 16", "Throws IllegalArgumentException if an argument is out of range",
                ChanceSentences::noSuchGame);
    }

    // ---- promise 13

    /** A wheel made for a number, its program and the ticks before the present, always the same. */
    private static FlashRatchet drawnAndRun(int number) {
        FlashRatchet wheel = Wheels.drawn(number);
        wheel.setProgram(Wheels.numberOf(Wheels.programs().get(7 * number % 120)));
        wheel.restart(number % 2, 37 * number % 1000);
        wheel.run(1 + number % 9);
        return wheel;
    }

    private static void pass(FlashRatchet wheel, int ticks) {
        for (int left = ticks; left > 0; left -= 500) {
            wheel.run(Math.min(left, 500));
        }
    }

    /** Position, index and seed in one number. */
    private static int situation(FlashRatchet wheel) {
        return 10000 * wheel.count(1) + 1000 * wheel.count(3) + wheel.count(4);
    }

    private static int situationAfter(int number, int ticks) {
        FlashRatchet wheel = drawnAndRun(number);
        pass(wheel, ticks);
        return situation(wheel);
    }

    private static void asTheRunReallyGoesOn() {
        for (int number = 0; number < 150; number++) {
            FlashRatchet wheel = drawnAndRun(number);
            int lead = wheel.cycle(0);
            int period = wheel.cycle(1);
            int gain = wheel.cycle(2);
            pass(wheel, lead);
            int before = wheel.count(5);
            int first = situation(wheel);
            pass(wheel, period);
            Check.due("wheel " + number + ", the situation again", situation(wheel), first);
            Check.due("wheel " + number + ", the gain", wheel.count(5) - before, gain);
            Check.dueThat("wheel " + number + ", an earlier situation comes again",
                    lead == 0 || situationAfter(number, lead - 1) != situationAfter(number, lead - 1 + period));
            for (int divisor : new int[] {2, 3, 5, 7, 11, 13}) {
                Check.dueThat("wheel " + number + ", the situation comes again sooner",
                        period % divisor != 0 || situationAfter(number, lead + period / divisor) != first);
            }
        }
    }

    private static void cycleChangesNothing() {
        for (Start start : Start.values()) {
            FlashRatchet wheel = start.wheel();
            for (int what = 0; what <= 2; what++) {
                wheel.cycle(what);
            }
            Check.dueThat("something has changed, " + start, Tour.of(wheel).equals(Tour.of(start.wheel())));
        }
    }

    private static void dueCycle(String when, FlashRatchet wheel, int lead, int period, int gain) {
        Check.due(when + ", cycle(0)", wheel.cycle(0), lead);
        Check.due(when + ", cycle(1)", wheel.cycle(1), period);
        Check.due(when + ", cycle(2)", wheel.cycle(2), gain);
    }

    /** The numbers of each start are worked out outside of this program. */
    private static void inAnyOrder() {
        int[][] due = {{0, 1000, 0}, {0, 3000, 532}, {0, 3000, 48}, {0, 1000, 240}};
        for (Start start : Start.values()) {
            FlashRatchet wheel = start.wheel();
            for (int what : new int[] {2, 1, 0, 1, 2, 0, 0, 2}) {
                Check.due(start + ", cycle(" + what + ")", wheel.cycle(what), due[start.ordinal()][what]);
            }
        }
    }

    private static void thePositionBelongsToASituation() {
        dueCycle("1000 times forward on 2", Wheels.even(2, 0, 0, 10), 0, 1000, 1000);
        dueCycle("1000 times forward on 3", Wheels.even(3, 0, 0, 10), 0, 3000, 3000);
        dueCycle("1000 times forward on 4", Wheels.even(4, 0, 0, 10), 0, 1000, 1000);
        FlashRatchet wheel = Wheels.even(3, 0, 0, 10);
        wheel.setProgram(Wheels.numberOf("AAB"));
        dueCycle("2000 times forward in 3000 ticks on 3", wheel, 0, 9000, 6000);
    }

    private static void theIndexBelongsToASituation() {
        String[] programs = {"A", "AA", "AAA", "AAAA"};
        int[] periods = {1000, 1000, 3000, 1000};
        for (int each = 0; each < 4; each++) {
            FlashRatchet wheel = new FlashRatchet();
            wheel.setProgram(Wheels.numberOf(programs[each]));
            dueCycle("standing with " + programs[each], wheel, 0, periods[each], 0);
        }
    }

    private static void gainAndTicksDoNotBelongToASituation() {
        FlashRatchet wheel = Wheels.even(4, 0, 0, 10);
        dueCycle("at first", wheel, 0, 1000, 1000);
        wheel.run(500);
        dueCycle("with a gain of 500", wheel, 0, 1000, 1000);
    }

    private static void thePresentSituationComesAgain() {
        FlashRatchet wheel = new FlashRatchet();
        for (int seed : new int[] {0, 1, 999}) {
            wheel.restart(2, seed);
            dueCycle("standing", wheel, 0, 1000, 0);
        }
    }

    private static void thePresentSituationDoesNotComeAgain() {
        FlashRatchet wheel = new FlashRatchet();
        wheel.begin(4);
        for (int position = 0; position <= 2; position++) {
            wheel.setTable(0, position, 0, 10);
        }
        for (int position = 0; position <= 3; position++) {
            wheel.restart(position, 5);
            dueCycle("to the last position from " + position, wheel, 3 - position, 1000, 0);
        }
        wheel.restart(0, 5);
        wheel.run(2);
        dueCycle("one step before it", wheel, 1, 1000, 0);
        wheel.run(1);
        dueCycle("there", wheel, 0, 1000, 0);
    }

    private static void longWayToTheCycle() {
        FlashRatchet wheel = Wheels.of(3, "A:00,00,00;B:60,71,60;C:00,90,00;P:BCC");
        wheel.restart(2, 463);
        int lead = wheel.cycle(0);
        Check.dueThat("the way is longer than any cycle of seeds", lead > 2000);
        pass(wheel, lead - 1);
        Check.due("one tick before", wheel.cycle(0), 1);
        wheel.run(1);
        Check.due("there", wheel.cycle(0), 0);
    }

    private static void gainsOfCycles() {
        dueCycle("back on 4", Wheels.even(4, 0, 10, 0), 0, 1000, -1000);
        dueCycle("forward on 4", Wheels.even(4, 0, 0, 10), 0, 1000, 1000);
        dueCycle("as often back as forward", Wheels.even(4, 0, 5, 5), 0, 1000, 0);
        FlashRatchet wheel = Wheels.even(4, 0, 10, 0);
        wheel.pawl(0, true);
        wheel.restart(2, 0);
        dueCycle("the gain on the way does not count", wheel, 2, 1000, 0);
    }

    private static void noSuchCycle() {
        for (int wrong : Wheels.outside(0, 2)) {
            Refused.due("cycle(" + wrong + ")", Check.ARGUMENT, wheel -> wheel.cycle(wrong));
        }
    }

    // ---- promise 14

    private static void fromThePresentPosition() {
        FlashRatchet wheel = Wheels.of(3, "A:12,34,50");
        long[][] due = {{7, 2, 1}, {3, 3, 4}, {0, 5, 5}};
        for (int from = 0; from <= 2; from++) {
            wheel.restart(from, 77);
            for (int to = 0; to <= 2; to++) {
                Check.due("chance from " + from + " to " + to, wheel.chance(1, to), due[from][to]);
            }
        }
    }

    private static void fromThePresentIndex() {
        FlashRatchet wheel = Wheels.forwardBackStay();
        wheel.setProgram(Wheels.numberOf("ACCB"));
        int[] places = {1, 1, 1, 0, 1, 1};
        for (int tick = 0; tick < 5; tick++) {
            Check.due("next of tick " + tick, wheel.chance(1, places[tick]), 10);
            wheel.run(1);
        }
        wheel.restart(0, 0);
        wheel.run(3);
        Check.due("index", wheel.count(3), 3);
        Check.due("B, A and all others behind the last lever", wheel.chance(2, 1), 100);
        Check.due("15 ticks from the last lever on", wheel.chance(15, 1), Wheels.tenToThe(15));
    }

    private static void chanceChangesNothing() {
        for (Start start : Start.values()) {
            FlashRatchet wheel = start.wheel();
            wheel.chance(15, 1);
            wheel.chanceOfGain(15, 3);
            wheel.game(3, 3, 15, 0);
            Check.dueThat("something has changed, " + start, Tour.of(wheel).equals(Tour.of(start.wheel())));
        }
    }

    private static void chanceAfter0Ticks() {
        for (Start start : Start.values()) {
            FlashRatchet wheel = start.wheel();
            for (int position = 0; position < wheel.count(0); position++) {
                Check.due(start + ", chance(0, " + position + ")", wheel.chance(0, position),
                        position == wheel.count(1) ? 1 : 0);
            }
        }
    }

    private static void chanceAfter15Ticks() {
        for (int positions = 2; positions <= 4; positions++) {
            FlashRatchet forward = Wheels.even(positions, 0, 0, 10);
            FlashRatchet back = Wheels.even(positions, 0, 10, 0);
            for (int position = 0; position < positions; position++) {
                long certain = Wheels.tenToThe(15);
                Check.due("15 forward, at " + position, forward.chance(15, position), position == 15 % positions ? certain : 0);
                Check.due("15 back, at " + position, back.chance(15, position),
                        position == (16 * positions - 15) % positions ? certain : 0);
            }
        }
    }

    private static void firstAndLastPositionOfAChance() {
        for (int positions = 2; positions <= 4; positions++) {
            FlashRatchet wheel = new FlashRatchet();
            wheel.begin(positions);
            wheel.restart(positions - 1, 0);
            Check.due("the last", wheel.chance(2, positions - 1), 100);
            Check.due("the first", wheel.chance(2, 0), 0);
        }
    }

    private static void allChancesTogether() {
        for (int number = 0; number < 60; number++) {
            FlashRatchet wheel = drawnAndRun(number);
            for (int ticks = 0; ticks <= 15; ticks++) {
                long sum = 0;
                for (int position = 0; position < wheel.count(0); position++) {
                    sum += wheel.chance(ticks, position);
                }
                Check.due("wheel " + number + ", all after " + ticks, sum, Wheels.tenToThe(ticks));
            }
        }
    }

    private static void leastChance() {
        FlashRatchet wheel = new FlashRatchet();
        wheel.begin(4);
        wheel.setTable(0, 0, 0, 1);
        wheel.setTable(0, 1, 0, 1);
        wheel.setTable(0, 2, 0, 1);
        Check.due("three times 1 of 10", wheel.chance(3, 3), 1);
        Check.due("none in two ticks", wheel.chance(2, 3), 0);
        wheel.setTable(0, 0, 0, 9);
        Check.due("9 of 10 fifteen times missed", wheel.chance(15, 0), 1);
    }

    private static void noSuchTicksOfAChance() {
        for (int wrong : Wheels.outside(0, 15)) {
            Refused.due("chance(" + wrong + ", 0)", Check.ARGUMENT, wheel -> wheel.chance(wrong, 0));
        }
    }

    private static void noSuchPositionOfAChance() {
        for (int wrong : Wheels.outside(0, 3)) {
            Refused.due("chance(0, " + wrong + ")", Check.INDEX, wheel -> wheel.chance(0, wrong));
            Refused.due("chance(15, " + wrong + ")", Check.INDEX, wheel -> wheel.chance(15, wrong));
        }
        Refused.due("chance(0, m)", Check.INDEX, wheel -> wheel.chance(0, wheel.count(0)));
        Refused.due("chance(15, m)", Check.INDEX, wheel -> wheel.chance(15, wheel.count(0)));
    }

    private static void aChanceWithWrongTicksAndAWrongPosition() {
        Refused.due("chance(16, -1)", Check.ARGUMENT, wheel -> wheel.chance(16, -1));
        Refused.due("chance(-1, m)", Check.ARGUMENT, wheel -> wheel.chance(-1, wheel.count(0)));
    }

    // ---- promise 15

    private static void theGainFromNowOn() {
        FlashRatchet wheel = Wheels.forwardBackStay();
        wheel.setProgram(Wheels.numberOf("AAB"));
        wheel.run(2);
        Check.due("B next, gain -1", wheel.chanceOfGain(1, -1), 10);
        Check.due("B next, not 0", wheel.chanceOfGain(1, 0), 0);
        Check.due("BA, gain 0", wheel.chanceOfGain(2, 0), 100);
        Check.due("BA, not 1", wheel.chanceOfGain(2, 1), 0);
        Check.due("BAA, gain 1", wheel.chanceOfGain(3, 1), 1000);
    }

    private static void atLeastIsAsMuchOrMore() {
        FlashRatchet wheel = Wheels.even(3, 0, 2, 3);
        long[] due = {100, 96, 76, 39, 9, 0};
        for (int least = -2; least <= 3; least++) {
            Check.due("at least " + least, wheel.chanceOfGain(2, least), due[least + 2]);
        }
    }

    private static void gainIn0Ticks() {
        for (Start start : Start.values()) {
            FlashRatchet wheel = start.wheel();
            Check.due(start + ", at least 0", wheel.chanceOfGain(0, 0), 1);
            Check.due(start + ", at least -1", wheel.chanceOfGain(0, -1), 1);
            Check.due(start + ", at least 1", wheel.chanceOfGain(0, 1), 0);
        }
    }

    private static void gainIn15Ticks() {
        FlashRatchet wheel = Wheels.even(3, 0, 2, 3);
        Check.due("15 forward", wheel.chanceOfGain(15, 15), Wheels.power(3, 15));
        Check.due("more than 15", wheel.chanceOfGain(15, 16), 0);
        Check.due("all but 15 back", wheel.chanceOfGain(15, -14), Wheels.tenToThe(15) - Wheels.power(2, 15));
        Check.due("all", wheel.chanceOfGain(15, -15), Wheels.tenToThe(15));
    }

    private static void leastBeyondAllGains() {
        FlashRatchet wheel = Wheels.even(3, 0, 2, 3);
        for (int ticks = 0; ticks <= 15; ticks++) {
            for (int least : new int[] {Integer.MIN_VALUE, Integer.MIN_VALUE + 1, -1000, -17, -16, -ticks - 1, -ticks}) {
                Check.due("chanceOfGain(" + ticks + ", " + least + ")", wheel.chanceOfGain(ticks, least), Wheels.tenToThe(ticks));
            }
            for (int least : new int[] {Integer.MAX_VALUE, Integer.MAX_VALUE - 1, 1000, 17, 16, ticks + 1}) {
                Check.due("chanceOfGain(" + ticks + ", " + least + ")", wheel.chanceOfGain(ticks, least), 0);
            }
        }
    }

    private static void certainGains() {
        FlashRatchet forward = Wheels.even(4, 0, 0, 10);
        FlashRatchet back = Wheels.even(4, 0, 10, 0);
        for (int ticks = 0; ticks <= 15; ticks++) {
            Check.due("forward, all of " + ticks, forward.chanceOfGain(ticks, ticks), Wheels.tenToThe(ticks));
            Check.due("forward, more than " + ticks, forward.chanceOfGain(ticks, ticks + 1), 0);
            Check.due("back, all of " + ticks, back.chanceOfGain(ticks, -ticks), Wheels.tenToThe(ticks));
            Check.due("back, less than " + ticks, back.chanceOfGain(ticks, 1 - ticks), 0);
        }
    }

    private static void noSuchTicksOfAGain() {
        for (int wrong : Wheels.outside(0, 15)) {
            Refused.due("chanceOfGain(" + wrong + ", 0)", Check.ARGUMENT, wheel -> wheel.chanceOfGain(wrong, 0));
        }
    }

    // ---- promise 16

    private static FlashRatchet certain(String program) {
        FlashRatchet wheel = Wheels.forwardBackStay();
        wheel.setProgram(Wheels.numberOf(program));
        return wheel;
    }

    private static void dueGame(FlashRatchet wheel, int[] game, int outcome) {
        for (int what = 0; what <= 2; what++) {
            Check.due("game(" + game[0] + ", " + game[1] + ", " + game[2] + ", " + what + ")",
                    wheel.game(game[0], game[1], game[2], what), what == outcome ? Wheels.tenToThe(game[2]) : 0);
        }
    }

    private static void whatIsLostIsNotWonLater() {
        dueGame(certain("BAAA"), new int[] {1, 1, 15}, 0);
        dueGame(certain("BAAA"), new int[] {1, 2, 4}, 0);
        dueGame(certain("BBAA"), new int[] {2, 15, 15}, 0);
    }

    private static void whatIsWonIsNotLostLater() {
        dueGame(certain("ABBB"), new int[] {1, 1, 15}, 1);
        dueGame(certain("ABBB"), new int[] {2, 1, 4}, 1);
        dueGame(certain("AABB"), new int[] {15, 2, 15}, 1);
    }

    private static void theGameBeginsWithNoGain() {
        FlashRatchet wheel = certain("A");
        wheel.run(15);
        dueGame(wheel, new int[] {1, 1, 0}, 2);
        dueGame(wheel, new int[] {15, 15, 14}, 2);
        dueGame(wheel, new int[] {15, 15, 15}, 1);
        FlashRatchet later = certain("AB");
        later.run(1);
        dueGame(later, new int[] {1, 1, 5}, 0);
    }

    /** Behind BAAA the gain is -1, 0, 1, 2 in the first round, and 1, 2, 3, 4 in the second one. */
    private static void upAndDownBeforeItIsWon() {
        dueGame(certain("BAAA"), new int[] {2, 2, 3}, 2);
        dueGame(certain("BAAA"), new int[] {2, 2, 4}, 1);
        dueGame(certain("BAAA"), new int[] {2, 3, 6}, 2);
        dueGame(certain("BAAA"), new int[] {2, 3, 7}, 1);
    }

    private static void lostInTheLastTickOrNotYet() {
        for (int money = 1; money <= 15; money++) {
            dueGame(certain("B"), new int[] {money, 1, money}, 0);
            dueGame(certain("B"), new int[] {money, 1, money - 1}, 2);
            dueGame(certain("B"), new int[] {money, 15, 15}, 0);
        }
    }

    private static void wonInTheLastTickOrNotYet() {
        for (int goal = 1; goal <= 15; goal++) {
            dueGame(certain("A"), new int[] {1, goal, goal}, 1);
            dueGame(certain("A"), new int[] {1, goal, goal - 1}, 2);
            dueGame(certain("A"), new int[] {15, goal, 15}, 1);
        }
    }

    private static void gamesOf0And15Ticks() {
        dueGame(certain("A"), new int[] {1, 1, 0}, 2);
        dueGame(certain("C"), new int[] {1, 1, 15}, 2);
        FlashRatchet wheel = Wheels.even(3, 0, 9, 1);
        Check.due("15 back", wheel.game(15, 15, 15, 0), 205891132094649L);
        Check.due("15 forward", wheel.game(15, 15, 15, 1), 1);
        Check.due("neither", wheel.game(15, 15, 15, 2), Wheels.tenToThe(15) - 205891132094649L - 1);
    }

    private static void threeOutcomes() {
        FlashRatchet wheel = Wheels.even(3, 0, 2, 3);
        long[] one = {2, 3, 5};
        long[] two = {30, 45, 25};
        for (int what = 0; what <= 2; what++) {
            Check.due("1 tick, " + what, wheel.game(1, 1, 1, what), one[what]);
            Check.due("2 ticks, " + what, wheel.game(1, 1, 2, what), two[what]);
        }
    }

    private static void allOutcomesTogether() {
        for (int number = 0; number < 60; number++) {
            FlashRatchet wheel = drawnAndRun(number);
            for (int ticks = 0; ticks <= 15; ticks++) {
                for (int stake = 1; stake <= 15; stake += 7) {
                    long sum = wheel.game(stake, 16 - stake, ticks, 0) + wheel.game(stake, 16 - stake, ticks, 1)
                            + wheel.game(stake, 16 - stake, ticks, 2);
                    Check.due("wheel " + number + ", all after " + ticks, sum, Wheels.tenToThe(ticks));
                }
            }
        }
    }

    private static void noSuchGame() {
        for (int wrong : Wheels.outside(1, 15)) {
            Refused.due("game(" + wrong + ", 1, 1, 0)", Check.ARGUMENT, wheel -> wheel.game(wrong, 1, 1, 0));
            Refused.due("game(1, " + wrong + ", 1, 0)", Check.ARGUMENT, wheel -> wheel.game(1, wrong, 1, 0));
        }
        for (int wrong : Wheels.outside(0, 15)) {
            Refused.due("game(1, 1, " + wrong + ", 0)", Check.ARGUMENT, wheel -> wheel.game(1, 1, wrong, 0));
        }
        for (int wrong : Wheels.outside(0, 2)) {
            Refused.due("game(1, 1, 1, " + wrong + ")", Check.ARGUMENT, wheel -> wheel.game(1, 1, 1, wrong));
        }
    }
}
