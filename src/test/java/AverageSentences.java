import java.math.BigInteger;

/** The sentences on averages, on the best program, and those of promises 17 to 22. */
final class AverageSentences {
    private static final String PROGRAM = "program: the number of a program";

    private AverageSentences() {
    }

    static void all() {
        rounds();
        averages();
        promises17And18();
        promises19And20();
        promise21();
        promise22();
    }

    private static void rounds() {
        Sentence.test("Averages", "A round of a program consists of as many ticks as it has levers.",
                AverageSentences::roundsOf1To4Ticks);
        String follow = "Consider the positions at the beginnings of rounds; from a position, another one (or the same) can "
                + "follow if the chance for this, by one round, is above 0.";
        Sentence.test("Averages", follow, AverageSentences::onlyTheBeginningsOfRoundsCount);
        Sentence.test("Averages", follow, AverageSentences::theLeastChanceOfAll);
        Sentence.test("Averages", follow, AverageSentences::aChanceOf0);
        String set = "A class is a set of positions from each of which, over any number of rounds, all positions of the set can "
                + "be reached, but no other ones.";
        Sentence.test("Averages", set, AverageSentences::classesOfSomeTables);
        Sentence.test("Averages", set, AverageSentences::classesByTheirDefinition);
        Sentence.test("Averages", "There is at least one class.", AverageSentences::oneClassToAsManyAsPositions);
    }

    private static void averages() {
        Sentence.test("Averages", "If there is exactly one, the shares of the positions are the numbers, 0 or more and with the "
                + "sum 1, for which the following holds: the share of each position is the sum, over all positions, of their "
                + "shares times the chance with which this position follows them.", AverageSentences::sharesByTheirEquations);
        Sentence.test("Averages", "(There is exactly one such solution.)", AverageSentences::asManyFreeSharesAsClasses);
        String average = "The average of the program is the sum, over all positions, of their shares times the mean gain of a "
                + "round that begins there, divided by the number of ticks of a round.";
        Sentence.test("Averages", average, AverageSentences::averagesByTheirDefinition);
        Sentence.test("Averages", average, AverageSentences::leastAndGreatestAverage);
        Sentence.test("Averages", average, AverageSentences::roundsOfFourCertainTicks);
        Sentence.test("Averages", "If there are several classes, the program has no average.",
                AverageSentences::severalClasses);
        String fraction = "A fraction is told by a numerator and a denominator that is above 0 and has no common divisor above "
                + "1 with the numerator; 0 is 0 / 1.";
        Sentence.test("Averages", fraction, AverageSentences::fractionsInLowestTerms);
        Sentence.test("Averages", fraction, AverageSentences::aFractionOf0);
    }

    private static void promises17And18() {
        Sentence.test("Promise 17", "Returns a part of the average of a program.", AverageSentences::notOfThePresentState);
        Sentence.test("Promise 17", PROGRAM, AverageSentences::averagesOfAllPrograms);
        String what = "what: 0: the numerator; 1: the denominator; both are 0 if the program has no average";
        Sentence.test("Promise 17", what, AverageSentences::partsOfAnAverage);
        Sentence.test("Promise 17", what, AverageSentences::partsOfNoAverage);
        Sentence.test("Promise 17", what, AverageSentences::noAverageBehindOneThatThereIs);
        Sentence.test("Promise 17", "Returns the part.", AverageSentences::partsOfAnAverageBeyondAnInt);
        String argument = "Throws IllegalArgumentException if program is not the number of a program, or what is not 0 or 1";
        Sentence.test("Promise 17", argument, AverageSentences::averageOfNoProgram);
        Sentence.test("Promise 17", argument, AverageSentences::noSuchPartOfAnAverage);
        Sentence.test("Promise 18", "Returns a part of the share of a position, for a program.",
                AverageSentences::shareOfAPositionThatIsLeftForEver);
        Sentence.test("Promise 18", PROGRAM, AverageSentences::sharesOfAllPrograms);
        Sentence.test("Promise 18", "position: a position", AverageSentences::firstAndLastPositionOfAShare);
        String parts = "what: 0: the numerator; 1: the denominator; both are 0 if there are several classes";
        Sentence.test("Promise 18", parts, AverageSentences::partsOfNoShare);
        Sentence.test("Promise 18", parts, AverageSentences::noShareBehindOneThatThereIs);
        Sentence.test("Promise 18", "Returns the part.", AverageSentences::partsOfSharesBeyondAnInt);
        Sentence.test("Promise 18", "Throws IndexOutOfBoundsException if the position does not exist",
                AverageSentences::noSuchPositionOfAShare);
        Sentence.test("Promise 18", argument, AverageSentences::shareOfNoProgram);
        Sentence.test("Promise 18", argument, AverageSentences::noSuchPartOfAShare);
        Sentence.test("Exceptions", "If several exceptions apply, the one that is named first in the throws clause is thrown.",
                AverageSentences::aShareOfAWrongPositionAndNoProgram);
    }

    private static void promises19And20() {
        Sentence.test("Promise 19", "Returns the number of classes for a program.",
                AverageSentences::classesOfTheProgramThatIsAskedFor);
        Sentence.test("Promise 19", PROGRAM, AverageSentences::classesOfAllPrograms);
        Sentence.test("Promise 19", "Returns the number.", AverageSentences::oneClassToAsManyAsPositions);
        Sentence.test("Promise 19", "Throws IllegalArgumentException if program is not the number of a program",
                AverageSentences::classesOfNoProgram);
        Sentence.test("Promise 20", "Compares the averages of two programs.", AverageSentences::allComparisons);
        Sentence.test("Promise 20", "one: the number of a program", AverageSentences::firstAndLastProgramCompared);
        Sentence.test("Promise 20", "other: the number of a program", AverageSentences::firstAndLastProgramCompared);
        String less = "Returns -1 if the average of the first one is less, 0 if they are equal, 1 if it is greater.";
        Sentence.test("Promise 20", less, AverageSentences::lessEqualAndGreater);
        Sentence.test("Promise 20", less, AverageSentences::aProgramWithItself);
        Sentence.test("Promise 20", less, AverageSentences::onBothSidesOf0);
        Sentence.test("Promise 20", less, AverageSentences::averagesThatAreAlmostEqual);
        Sentence.test("Promise 20", less, AverageSentences::averagesWithLongParts);
        Sentence.test("Promise 20", "Throws IllegalArgumentException if one of them is not the number of a program",
                AverageSentences::noProgramToCompare);
        String none = "Throws IllegalStateException if one of them has no average";
        Sentence.test("Promise 20", none, AverageSentences::theFirstHasNoAverage);
        Sentence.test("Promise 20", none, AverageSentences::theOtherHasNoAverage);
        Sentence.test("Promise 20", none, AverageSentences::bothHaveNoAverage);
        Sentence.test("Exceptions", "If several exceptions apply, the one that is named first in the throws clause is thrown.",
                AverageSentences::noAverageAndNoProgram);
    }

    private static void promise21() {
        String best = "Of all programs with at most a certain length that use only levers that are geared in, and that have an "
                + "average, the best one is the one with the greatest average; of several the shortest one, and of several of "
                + "these the one whose number is the lowest.";
        Sentence.test("The best program", best, AverageSentences::theBestOfAll);
        Sentence.test("The best program", best, AverageSentences::neverWithALeverThatIsOut);
        Sentence.test("The best program", best, AverageSentences::neverWithoutAnAverage);
        Sentence.test("The best program", best, AverageSentences::ofEqualOnesTheShortest);
        Sentence.test("The best program", best, AverageSentences::ofEqualOnesOfOneLengthTheLowest);
        Sentence.test("The best program", best, AverageSentences::aLongerOneOnlyIfItIsBetter);
        Sentence.test("Promise 21", "Returns something of the best program.", AverageSentences::allOfOneAndTheSameProgram);
        Sentence.test("Promise 21", "most: the greatest length of programs that are considered, 1 to 3",
                AverageSentences::lengthsFrom1To3);
        Sentence.test("Promise 21", "what: 0: its number; 1: the numerator, 2: the denominator of its average",
                AverageSentences::partsOfTheBestProgram);
        String none = "Returns the number; NONE if there is no best program.";
        Sentence.test("Promise 21", none, AverageSentences::noBestProgram);
        Sentence.test("The constants", "NONE = -1: There is nothing to return.", AverageSentences::noBestProgram);
        Sentence.test("Promise 21", "Throws IllegalArgumentException if an argument is out of range",
                AverageSentences::noSuchBestProgram);
    }

    private static void promise22() {
        Sentence.test("Promise 22", "Tells whether levers together do what none of them does alone.",
                AverageSentences::severalLeversAreNeededToWin);
        String paradox = "Returns 1 if each program that consists of one lever that is geared in has an average that is less "
                + "than 0, and the best program with a length of at most 3 has an average that is greater than 0; otherwise 0 "
                + "(also if no lever is geared in).";
        Sentence.test("Promise 22", paradox, AverageSentences::eachLoses);
        Sentence.test("Promise 22", paradox, AverageSentences::oneIsFair);
        Sentence.test("Promise 22", paradox, AverageSentences::oneHasNoAverage);
        Sentence.test("Promise 22", paradox, AverageSentences::onlyLeversThatAreIn);
        Sentence.test("Promise 22", paradox, AverageSentences::theBestIsFair);
        Sentence.test("Promise 22", paradox, AverageSentences::theBestWinsAlmostNothing);
        Sentence.test("Promise 22", paradox, AverageSentences::onlyProgramsOfFourLeversWin);
        Sentence.test("Promise 22", paradox, AverageSentences::oneLeverAlone);
        Sentence.test("Promise 22", paradox, AverageSentences::noLeverIsIn);
        Sentence.test("Promise 22", paradox, AverageSentences::paradoxesByTheirDefinition);
    }

    // ---- what the tests have in common

    private static int number(String program) {
        return Wheels.numberOf(program);
    }

    private static Model.Ratio average(FlashRatchet wheel, int program) {
        return Model.Ratio.of(wheel.average(program, 0), wheel.average(program, 1));
    }

    private static boolean hasAverage(FlashRatchet wheel, int program) {
        return wheel.average(program, 1) != 0;
    }

    private static void dueAverage(FlashRatchet wheel, String program, long above, long below) {
        Check.due("numerator of " + program, wheel.average(number(program), 0), above);
        Check.due("denominator of " + program, wheel.average(number(program), 1), below);
    }

    private static void dueShare(FlashRatchet wheel, String program, int position, long above, long below) {
        Check.due("numerator of " + position + " by " + program, wheel.share(number(program), position, 0), above);
        Check.due("denominator of " + position + " by " + program, wheel.share(number(program), position, 1), below);
    }

    private static void dueClasses(FlashRatchet wheel, String program, int classes) {
        Check.due("classes of " + program, wheel.classes(number(program)), classes);
    }

    private static void dueBest(FlashRatchet wheel, int most, long... parts) {
        for (int what = 0; what <= 2; what++) {
            Check.due("best(" + most + ", " + what + ")", wheel.best(most, what), parts[what]);
        }
    }

    /** For each wheel and program: the wheel is made anew, the program is its present one. */
    private interface Try {
        void on(FlashRatchet wheel, String program);
    }

    private static void forDrawnWheels(int wheels, Try each) {
        for (int number = 0; number < wheels; number++) {
            for (String program : Wheels.programs()) {
                FlashRatchet wheel = Wheels.drawn(number);
                wheel.setProgram(number(program));
                each.on(wheel, program);
            }
        }
    }

    // ---- rounds and classes

    private static void roundsOf1To4Ticks() {
        FlashRatchet wheel = Wheels.even(4, 0, 0, 10);
        dueClasses(wheel, "A", 1);
        dueClasses(wheel, "AA", 2);
        dueClasses(wheel, "AAA", 1);
        dueClasses(wheel, "AAAA", 4);
        FlashRatchet three = Wheels.even(3, 0, 0, 10);
        dueClasses(three, "AA", 1);
        dueClasses(three, "AAA", 3);
        dueClasses(three, "AAAA", 1);
        FlashRatchet two = Wheels.even(2, 0, 0, 10);
        dueClasses(two, "AA", 2);
        dueClasses(two, "AAA", 1);
        dueClasses(two, "AAAA", 2);
    }

    private static void onlyTheBeginningsOfRoundsCount() {
        FlashRatchet wheel = Wheels.forwardBackStay();
        dueClasses(wheel, "AB", 4);
        dueClasses(wheel, "AAB", 1);
        wheel.setTable(1, 0, 0, 10);
        dueClasses(wheel, "AB", 3);
        dueShare(wheel, "AB", 0, 0, 0);
        FlashRatchet two = Wheels.of(2, "A:00,00;B:00,00");
        two.setTable(0, 0, 0, 10);
        two.setTable(1, 1, 0, 10);
        dueClasses(two, "AB", 1);
        dueShare(two, "AB", 0, 1, 1);
        dueShare(two, "AB", 1, 0, 1);
        dueShare(two, "BA", 1, 1, 1);
        dueShare(two, "BA", 0, 0, 1);
    }

    /** From 0, the round ends at 3 once in 10000 times, and otherwise at 0; from 3, it does so once in 100 times. */
    private static void theLeastChanceOfAll() {
        FlashRatchet wheel = Wheels.of(4, "A:01,00,00,00;B:00,91,00,00;C:00,00,91,09");
        wheel.setTable(2, 1, 10, 0);
        wheel.setProgram(number("ABCC"));
        Check.due("the chance of 3", wheel.chance(4, 3), 1);
        Check.due("the chance of 0", wheel.chance(4, 0), 9999);
        dueShare(wheel, "ABCC", 0, 9900, 9901);
        dueShare(wheel, "ABCC", 1, 0, 1);
        dueShare(wheel, "ABCC", 2, 0, 1);
        dueShare(wheel, "ABCC", 3, 1, 9901);
    }

    private static void aChanceOf0() {
        FlashRatchet wheel = Wheels.of(4, "A:00,00,00,00");
        dueClasses(wheel, "A", 4);
        wheel.setTable(0, 0, 0, 1);
        dueClasses(wheel, "A", 3);
        wheel.setTable(0, 0, 0, 10);
        dueClasses(wheel, "A", 3);
        wheel.setTable(0, 0, 10, 0);
        dueClasses(wheel, "A", 3);
        wheel.pawl(0, true);
        dueClasses(wheel, "A", 4);
        wheel.pawl(0, false);
        wheel.gear(0, false);
        dueClasses(wheel, "A", 4);
    }

    private static void classesOfSomeTables() {
        String[] tables = {"00,00,00,00", "01,00,00,00", "01,10,00,00", "01,11,00,00", "01,01,00,00", "01,10,01,10",
            "01,01,01,00", "01,01,01,01", "11,11,11,11", "10,00,00,00", "10,00,00,01", "00,11,00,11"};
        int[] classes = {4, 3, 3, 2, 2, 2, 1, 1, 1, 3, 3, 2};
        for (int each = 0; each < tables.length; each++) {
            FlashRatchet wheel = Wheels.of(4, "A:" + tables[each]);
            Check.due("classes of " + tables[each], wheel.classes(1), classes[each]);
        }
    }

    private static void classesByTheirDefinition() {
        forDrawnWheels(30, (wheel, program) -> dueClasses(wheel, program, countSets(chances(wheel, program.length()))));
    }

    /** From each position, the chances of all positions behind the ticks. */
    private static long[][] chances(FlashRatchet wheel, int ticks) {
        int positions = wheel.count(0);
        long[][] chances = new long[positions][positions];
        for (int from = 0; from < positions; from++) {
            wheel.restart(from, 0);
            for (int to = 0; to < positions; to++) {
                chances[from][to] = wheel.chance(ticks, to);
            }
        }
        return chances;
    }

    private static int countSets(long[][] chances) {
        int count = 0;
        for (int set = 1; set < 1 << chances.length; set++) {
            boolean isClass = true;
            for (int from = 0; from < chances.length; from++) {
                isClass &= (set >> from & 1) == 0 || reached(chances, from, 0) == set;
            }
            count += isClass ? 1 : 0;
        }
        return count;
    }

    private static int reached(long[][] chances, int from, int before) {
        int mask = before;
        for (int to = 0; to < chances.length; to++) {
            if (chances[from][to] > 0 && (mask >> to & 1) == 0) {
                mask = reached(chances, to, mask | 1 << to);
            }
        }
        return mask;
    }

    private static void oneClassToAsManyAsPositions() {
        for (int positions = 2; positions <= 4; positions++) {
            FlashRatchet wheel = new FlashRatchet();
            wheel.begin(positions);
            for (int from = 0; from < positions; from++) {
                dueClasses(wheel, "A", positions - from);
                wheel.setTable(0, from, 0, 1);
            }
            dueClasses(wheel, "A", 1);
        }
        forDrawnWheels(40, (wheel, program) -> Check.dueThat("no class or too many of " + program,
                wheel.classes(number(program)) >= 1 && wheel.classes(number(program)) <= wheel.count(0)));
    }

    // ---- shares and averages

    private static Model.Ratio share(FlashRatchet wheel, String program, int position) {
        return Model.Ratio.of(wheel.share(number(program), position, 0), wheel.share(number(program), position, 1));
    }

    private static void sharesByTheirEquations() {
        forDrawnWheels(30, (wheel, program) -> {
            if (wheel.classes(number(program)) == 1) {
                dueEquations(wheel, program);
            }
        });
    }

    private static void dueEquations(FlashRatchet wheel, String program) {
        long[][] chances = chances(wheel, program.length());
        Model.Ratio all = Model.Ratio.ZERO;
        for (int position = 0; position < chances.length; position++) {
            Model.Ratio sum = Model.Ratio.ZERO;
            for (int from = 0; from < chances.length; from++) {
                Model.Ratio chance = Model.Ratio.of(chances[from][position], Wheels.tenToThe(program.length()));
                sum = sum.plus(share(wheel, program, from).times(chance));
            }
            Model.Ratio share = share(wheel, program, position);
            Check.due("the share of " + position + " by " + program + " against its sum", share.order(sum), 0);
            Check.dueThat("a share below 0", share.order(Model.Ratio.ZERO) >= 0);
            all = all.plus(share);
        }
        Check.due("the sum of all shares by " + program + " against 1", all.order(Model.Ratio.ONE), 0);
    }

    /** The equations leave a share free for each class, and none but the sum's for one class alone. */
    private static void asManyFreeSharesAsClasses() {
        forDrawnWheels(30, (wheel, program) -> {
            int free = wheel.count(0) - equationsThatCount(chances(wheel, program.length()), Wheels.tenToThe(program.length()));
            dueClasses(wheel, program, free);
        });
    }

    /** How many of the equations do not follow from the others. */
    private static int equationsThatCount(long[][] chances, long certain) {
        int size = chances.length;
        Model.Ratio[][] lines = new Model.Ratio[size][size];
        for (int to = 0; to < size; to++) {
            for (int from = 0; from < size; from++) {
                lines[to][from] = Model.Ratio.of(chances[from][to] - (from == to ? certain : 0), certain);
            }
        }
        int count = 0;
        for (int column = 0; column < size; column++) {
            count += clearColumn(lines, column, count) ? 1 : 0;
        }
        return count;
    }

    /** Takes a line that has something in the column from all lines below it, and puts it above them. */
    private static boolean clearColumn(Model.Ratio[][] lines, int column, int above) {
        for (int line = above; line < lines.length; line++) {
            if (lines[line][column].order(Model.Ratio.ZERO) != 0) {
                Model.Ratio[] taken = lines[line];
                lines[line] = lines[above];
                lines[above] = taken;
                for (int below = above + 1; below < lines.length; below++) {
                    Model.Ratio factor = lines[below][column].over(taken[column]);
                    for (int place = 0; place < taken.length; place++) {
                        lines[below][place] = lines[below][place].minus(factor.times(taken[place]));
                    }
                }
                return true;
            }
        }
        return false;
    }

    private static void averagesByTheirDefinition() {
        forDrawnWheels(30, (wheel, program) -> {
            if (wheel.classes(number(program)) == 1) {
                Model.Ratio sum = Model.Ratio.ZERO;
                for (int position = 0; position < wheel.count(0); position++) {
                    sum = sum.plus(share(wheel, program, position).times(meanGain(wheel, program, position)));
                }
                Model.Ratio due = sum.over(Model.Ratio.of(program.length(), 1));
                Check.due("the average of " + program, average(wheel, number(program)).order(due), 0);
            }
        });
    }

    /** By the chances of each gain in a round from the position. */
    private static Model.Ratio meanGain(FlashRatchet wheel, String program, int position) {
        int ticks = program.length();
        wheel.restart(position, 0);
        long sum = 0;
        for (int gain = -ticks; gain <= ticks; gain++) {
            sum += gain * (wheel.chanceOfGain(ticks, gain) - wheel.chanceOfGain(ticks, gain + 1));
        }
        return Model.Ratio.of(sum, Wheels.tenToThe(ticks));
    }

    private static void leastAndGreatestAverage() {
        for (int positions = 2; positions <= 4; positions++) {
            dueAverage(Wheels.even(positions, 0, 0, 10), "A", 1, 1);
            dueAverage(Wheels.even(positions, 0, 10, 0), "A", -1, 1);
        }
        dueAverage(Wheels.even(3, 0, 0, 10), "AAAA", 1, 1);
        dueAverage(Wheels.even(3, 0, 10, 0), "AAAA", -1, 1);
        dueAverage(Wheels.even(4, 0, 5, 4), "AAAA", -1, 10);
    }

    /** The positions are left with certainty, so that all products within the class are as great as they can be. */
    private static void roundsOfFourCertainTicks() {
        FlashRatchet wheel = Wheels.forwardBackStay();
        for (String program : new String[] {"AAAC", "CAAA", "ACAA"}) {
            dueAverage(wheel, program, 3, 4);
            dueShare(wheel, program, 3, 1, 4);
        }
        dueAverage(wheel, "BBBC", -3, 4);
        dueAverage(wheel, "ACCC", 1, 4);
        dueAverage(wheel, "AAAB", 0, 0);
    }

    private static void severalClasses() {
        FlashRatchet wheel = Wheels.of(4, "A:01,00,01,00;B:01,01,01,00");
        dueClasses(wheel, "A", 2);
        dueAverage(wheel, "A", 0, 0);
        Refused.dueException("compare(1, 2)", wheel, Check.STATE, each -> each.compare(1, 2));
        wheel.gear(2, false);
        dueBest(wheel, 1, 2, 0, 1);
        forDrawnWheels(30, (drawn, program) -> Check.due("no average of " + program,
                hasAverage(drawn, number(program)) ? 1 : 0, drawn.classes(number(program)) == 1 ? 1 : 0));
    }

    private static void dueLowestTerms(String what, long above, long below) {
        boolean isNone = above == 0 && below == 0;
        boolean isLowest = below > 0 && BigInteger.valueOf(above).gcd(BigInteger.valueOf(below)).equals(BigInteger.ONE);
        Check.dueThat(what + " is " + above + " / " + below, isNone || isLowest);
    }

    private static void fractionsInLowestTerms() {
        forDrawnWheels(30, (wheel, program) -> {
            int number = number(program);
            dueLowestTerms("the average of " + program, wheel.average(number, 0), wheel.average(number, 1));
            for (int position = 0; position < wheel.count(0); position++) {
                dueLowestTerms("a share by " + program, wheel.share(number, position, 0), wheel.share(number, position, 1));
            }
        });
    }

    private static void aFractionOf0() {
        FlashRatchet wheel = Wheels.even(3, 0, 5, 5);
        dueAverage(wheel, "A", 0, 1);
        dueAverage(wheel, "AAAA", 0, 1);
        FlashRatchet two = Wheels.of(2, "A:01,00");
        dueShare(two, "A", 0, 0, 1);
        dueShare(two, "A", 1, 1, 1);
        dueBest(wheel, 1, 1, 0, 1);
    }

    // ---- promises 17 and 18

    private static void notOfThePresentState() {
        for (Start start : Start.values()) {
            FlashRatchet wheel = start.wheel();
            FlashRatchet other = start.wheel();
            other.setProgram(number("CBA"));
            other.restart(0, 444);
            other.run(2);
            for (int number = 1; number < 16; number++) {
                if (Wheels.isProgram(number)) {
                    Check.due(start + ", average of " + number, other.average(number, 0), wheel.average(number, 0));
                    Check.due(start + ", share by " + number, other.share(number, 1, 0), wheel.share(number, 1, 0));
                    Check.due(start + ", classes of " + number, other.classes(number), wheel.classes(number));
                }
            }
            Check.due(start + ", best(3, 0)", other.best(3, 0), wheel.best(3, 0));
            Check.due(start + ", paradox()", other.paradox(), wheel.paradox());
        }
    }

    /** A goes on by 1, B by 2 tenths, C by 3 tenths back: the average is that of the levers. */
    private static void averagesOfAllPrograms() {
        FlashRatchet wheel = Wheels.even(3, 0, 0, 1);
        Wheels.setAll(wheel, 1, 3, 5);
        Wheels.setAll(wheel, 2, 4, 1);
        for (String program : Wheels.programs()) {
            int tenths = 0;
            for (char letter : program.toCharArray()) {
                tenths += letter == 'C' ? -3 : letter - 'A' + 1;
            }
            Model.Ratio due = Model.Ratio.of(tenths, 10L * program.length());
            dueAverage(wheel, program, due.part(0), due.part(1));
        }
    }

    private static void partsOfAnAverage() {
        FlashRatchet wheel = Wheels.paradox();
        Check.due("numerator", wheel.average(number("ABB"), 0), 7697);
        Check.due("denominator", wheel.average(number("ABB"), 1), 358100);
    }

    private static void partsOfNoAverage() {
        for (int positions = 2; positions <= 4; positions++) {
            FlashRatchet wheel = new FlashRatchet();
            wheel.begin(positions);
            for (String program : new String[] {"A", "CCCC"}) {
                dueAverage(wheel, program, 0, 0);
            }
        }
    }

    private static void noAverageBehindOneThatThereIs() {
        FlashRatchet wheel = Wheels.forwardBackStay();
        dueAverage(wheel, "A", 1, 1);
        dueAverage(wheel, "AA", 0, 0);
        dueAverage(wheel, "AAC", 0, 0);
        dueAverage(wheel, "ACC", 1, 3);
        dueAverage(wheel, "AAAA", 0, 0);
    }

    private static void partsOfAnAverageBeyondAnInt() {
        FlashRatchet wheel = Wheels.ofNumbers(4, 500, 103, 702, 305, 100, 101, 700, 700, 305, 900, 1000, 701);
        dueAverage(wheel, "CBAB", -4490516673977L, 14618177637460L);
    }

    private static void averageOfNoProgram() {
        for (int wrong : Wheels.noPrograms()) {
            Refused.due("average(" + wrong + ", 0)", Check.ARGUMENT, wheel -> wheel.average(wrong, 0));
            Refused.due("average(" + wrong + ", 1)", Check.ARGUMENT, wheel -> wheel.average(wrong, 1));
        }
    }

    private static void noSuchPartOfAnAverage() {
        for (int wrong : Wheels.outside(0, 1)) {
            Refused.due("average(1, " + wrong + ")", Check.ARGUMENT, wheel -> wheel.average(1, wrong));
            Refused.due("average(255, " + wrong + ")", Check.ARGUMENT, wheel -> wheel.average(255, wrong));
        }
    }

    private static void shareOfAPositionThatIsLeftForEver() {
        FlashRatchet wheel = Wheels.of(4, "A:01,01,01,00");
        for (int position = 0; position <= 2; position++) {
            dueShare(wheel, "A", position, 0, 1);
        }
        dueShare(wheel, "A", 3, 1, 1);
    }

    private static void sharesOfAllPrograms() {
        FlashRatchet wheel = Wheels.even(2, 0, 0, 5);
        Wheels.setAll(wheel, 1, 5, 0);
        Wheels.setAll(wheel, 2, 1, 2);
        for (String program : Wheels.programs()) {
            dueShare(wheel, program, 0, 1, 2);
            dueShare(wheel, program, 1, 1, 2);
        }
    }

    private static void firstAndLastPositionOfAShare() {
        for (int positions = 2; positions <= 4; positions++) {
            FlashRatchet wheel = Wheels.even(positions, 0, 1, 2);
            dueShare(wheel, "A", 0, 1, positions);
            dueShare(wheel, "A", positions - 1, 1, positions);
        }
    }

    private static void partsOfNoShare() {
        for (int positions = 2; positions <= 4; positions++) {
            FlashRatchet wheel = new FlashRatchet();
            wheel.begin(positions);
            for (int position = 0; position < positions; position++) {
                dueShare(wheel, "A", position, 0, 0);
                dueShare(wheel, "CCCC", position, 0, 0);
            }
        }
    }

    private static void noShareBehindOneThatThereIs() {
        FlashRatchet wheel = Wheels.forwardBackStay();
        for (int position = 0; position <= 3; position++) {
            dueShare(wheel, "A", position, 1, 4);
            dueShare(wheel, "AA", position, 0, 0);
            dueAverage(wheel, "AAA", 1, 1);
            dueShare(wheel, "AAC", position, 0, 0);
        }
    }

    private static void partsOfSharesBeyondAnInt() {
        FlashRatchet wheel = Wheels.ofNumbers(4, 801, 1000, 303, 900, 403, 203, 1000, 801, 1000, 101, 100, 3);
        dueShare(wheel, "BABC", 0, 151529551400L, 1501970193411L);
        dueShare(wheel, "BABC", 1, 518430262300L, 1501970193411L);
        dueShare(wheel, "BABC", 2, 348740793611L, 1501970193411L);
        dueShare(wheel, "BABC", 3, 483269586100L, 1501970193411L);
    }

    private static void noSuchPositionOfAShare() {
        for (int wrong : Wheels.outside(0, 3)) {
            Refused.due("share(1, " + wrong + ", 0)", Check.INDEX, wheel -> wheel.share(1, wrong, 0));
        }
        Refused.due("share(255, m, 1)", Check.INDEX, wheel -> wheel.share(255, wheel.count(0), 1));
    }

    private static void shareOfNoProgram() {
        for (int wrong : Wheels.noPrograms()) {
            Refused.due("share(" + wrong + ", 0, 0)", Check.ARGUMENT, wheel -> wheel.share(wrong, 0, 0));
        }
    }

    private static void noSuchPartOfAShare() {
        for (int wrong : Wheels.outside(0, 1)) {
            Refused.due("share(1, 1, " + wrong + ")", Check.ARGUMENT, wheel -> wheel.share(1, 1, wrong));
        }
    }

    private static void aShareOfAWrongPositionAndNoProgram() {
        Refused.due("share(0, m, 0)", Check.INDEX, wheel -> wheel.share(0, wheel.count(0), 0));
        Refused.due("share(1, -1, 2)", Check.INDEX, wheel -> wheel.share(1, -1, 2));
        Refused.due("share(256, m, -1)", Check.INDEX, wheel -> wheel.share(256, wheel.count(0), -1));
    }

    // ---- promises 19 and 20

    private static void classesOfAllPrograms() {
        FlashRatchet wheel = Wheels.forwardBackStay();
        for (String program : Wheels.programs()) {
            int steps = 0;
            for (char letter : program.toCharArray()) {
                steps += letter == 'A' ? 1 : letter == 'B' ? 3 : 0;
            }
            dueClasses(wheel, program, steps % 4 == 0 ? 4 : steps % 4 == 2 ? 2 : 1);
        }
    }

    private static void classesOfTheProgramThatIsAskedFor() {
        for (String present : new String[] {"A", "C", "AAAA", "CBA"}) {
            FlashRatchet wheel = Wheels.forwardBackStay();
            wheel.setProgram(number(present));
            wheel.run(3);
            dueClasses(wheel, "A", 1);
            dueClasses(wheel, "AA", 2);
            dueClasses(wheel, "AAAA", 4);
        }
    }

    private static void classesOfNoProgram() {
        for (int wrong : Wheels.noPrograms()) {
            Refused.due("classes(" + wrong + ")", Check.ARGUMENT, wheel -> wheel.classes(wrong));
        }
    }

    private static void allComparisons() {
        for (int number = 0; number < 30; number++) {
            for (String one : Wheels.programs()) {
                FlashRatchet wheel = Wheels.drawn(number);
                for (int each = 0; each < 120; each += 7) {
                    int other = number(Wheels.programs().get(each));
                    dueComparison(wheel, number(one), other);
                }
            }
        }
    }

    private static void dueComparison(FlashRatchet wheel, int one, int other) {
        String call = "compare(" + one + ", " + other + ")";
        if (hasAverage(wheel, one) && hasAverage(wheel, other)) {
            Check.due(call, wheel.compare(one, other), average(wheel, one).order(average(wheel, other)));
        } else {
            Refused.dueException(call, wheel, Check.STATE, each -> each.compare(one, other));
        }
    }

    private static void firstAndLastProgramCompared() {
        FlashRatchet wheel = Wheels.even(3, 0, 0, 2);
        Wheels.setAll(wheel, 2, 0, 1);
        Check.due("A with CCCC", wheel.compare(1, 255), 1);
        Check.due("CCCC with A", wheel.compare(255, 1), -1);
        Check.due("AAAA with CCC", wheel.compare(85, 63), 1);
    }

    private static void lessEqualAndGreater() {
        FlashRatchet wheel = Wheels.even(3, 0, 1, 2);
        Wheels.setAll(wheel, 1, 4, 5);
        Wheels.setAll(wheel, 2, 1, 1);
        Check.due("C with A", wheel.compare(3, 1), -1);
        Check.due("B with A", wheel.compare(2, 1), 0);
        Check.due("A with C", wheel.compare(1, 3), 1);
        Check.due("AB with AAAB", wheel.compare(number("AB"), number("AAAB")), 0);
        Check.due("AC with A", wheel.compare(number("AC"), 1), -1);
        Check.due("AC with C", wheel.compare(number("AC"), 3), 1);
    }

    private static void aProgramWithItself() {
        FlashRatchet wheel = Wheels.of(4, "A:18,28,37,46;B:82,71,64,19;C:91,17,36,52");
        for (String program : Wheels.programs()) {
            Check.due(program, wheel.compare(number(program), number(program)), 0);
        }
    }

    private static void onBothSidesOf0() {
        FlashRatchet wheel = Wheels.even(3, 0, 2, 1);
        Wheels.setAll(wheel, 1, 1, 1);
        Wheels.setAll(wheel, 2, 1, 2);
        Check.due("below 0 with 0", wheel.compare(1, 2), -1);
        Check.due("0 with below 0", wheel.compare(2, 1), 1);
        Check.due("0 with above 0", wheel.compare(2, 3), -1);
        Check.due("above 0 with 0", wheel.compare(3, 2), 1);
        Check.due("below 0 with above 0", wheel.compare(1, 3), -1);
        Check.due("above 0 with below 0", wheel.compare(3, 1), 1);
        Check.due("-1/10 with -1/20", wheel.compare(1, number("AB")), -1);
        Check.due("0 with 0", wheel.compare(2, number("AC")), 0);
    }

    /** They differ by one part in 10^15. */
    private static void averagesThatAreAlmostEqual() {
        FlashRatchet wheel = Wheels.ofNumbers(4, 1000, 109, 100, 100, 9, 9, 0, 901, 9, 9, 0, 900);
        dueAverage(wheel, "ACCC", -9991, 996502350001L);
        dueAverage(wheel, "ACCB", -999, 99640261000L);
        Check.due("ACCC with ACCB", wheel.compare(number("ACCC"), number("ACCB")), -1);
        Check.due("ACCB with ACCC", wheel.compare(number("ACCB"), number("ACCC")), 1);
    }

    /** The products of numerators and denominators leave the numbers of 64 bits, and come in again in the wrong order. */
    private static void averagesWithLongParts() {
        FlashRatchet wheel = Wheels.of(4, "A:18,28,37,46;B:82,71,64,19;C:91,17,36,52");
        dueAverage(wheel, "AACB", 1419909712L, 4314830925L);
        dueAverage(wheel, "AABC", 1914764779L, 21889906600L);
        Check.due("AACB with AABC", wheel.compare(number("AACB"), number("AABC")), 1);
        Check.due("AABC with AACB", wheel.compare(number("AABC"), number("AACB")), -1);
    }

    private static void noProgramToCompare() {
        for (int wrong : Wheels.noPrograms()) {
            Refused.due("compare(" + wrong + ", 1)", Check.ARGUMENT, wheel -> wheel.compare(wrong, 1));
            Refused.due("compare(1, " + wrong + ")", Check.ARGUMENT, wheel -> wheel.compare(1, wrong));
            Refused.due("compare(" + wrong + ", " + wrong + ")", Check.ARGUMENT, wheel -> wheel.compare(wrong, wrong));
        }
    }

    private static void theFirstHasNoAverage() {
        Refused.dueFrom(Start.ON_2, "compare of C with A", Check.STATE, wheel -> wheel.compare(3, 1));
        Refused.dueFrom(Start.ON_2, "compare of CCCC with A", Check.STATE, wheel -> wheel.compare(255, 1));
    }

    private static void theOtherHasNoAverage() {
        Refused.dueFrom(Start.ON_2, "compare of A with C", Check.STATE, wheel -> wheel.compare(1, 3));
        Refused.dueFrom(Start.ON_2, "compare of A with CC", Check.STATE, wheel -> wheel.compare(1, 15));
    }

    private static void bothHaveNoAverage() {
        Refused.dueFrom(Start.NEW, "compare of A with B", Check.STATE, wheel -> wheel.compare(1, 2));
        Refused.dueFrom(Start.NEW, "compare of A with itself", Check.STATE, wheel -> wheel.compare(1, 1));
        Refused.dueFrom(Start.ON_2, "compare of C with CC", Check.STATE, wheel -> wheel.compare(3, 15));
    }

    private static void noAverageAndNoProgram() {
        Refused.dueFrom(Start.NEW, "compare of A with 0", Check.ARGUMENT, wheel -> wheel.compare(1, 0));
        Refused.dueFrom(Start.NEW, "compare of 256 with A", Check.ARGUMENT, wheel -> wheel.compare(256, 1));
        Refused.dueFrom(Start.ON_2, "compare of C with 4", Check.ARGUMENT, wheel -> wheel.compare(3, 4));
        Refused.dueFrom(Start.ON_2, "compare of -1 with C", Check.ARGUMENT, wheel -> wheel.compare(-1, 3));
    }

    // ---- the best program

    private static boolean usesOnly(String program, int levers) {
        for (char letter : program.toCharArray()) {
            if ((levers >> (letter - 'A') & 1) == 0) {
                return false;
            }
        }
        return true;
    }

    private static boolean isBetter(FlashRatchet wheel, String one, String other) {
        int order = average(wheel, number(one)).order(average(wheel, number(other)));
        if (order != 0) {
            return order > 0;
        }
        if (one.length() != other.length()) {
            return one.length() < other.length();
        }
        return number(one) < number(other);
    }

    /** Null if there is none. */
    private static String bestOf(FlashRatchet wheel, int most) {
        String best = null;
        for (String program : Wheels.programs()) {
            if (program.length() <= most && usesOnly(program, wheel.count(7)) && hasAverage(wheel, number(program))
                    && (best == null || isBetter(wheel, program, best))) {
                best = program;
            }
        }
        return best;
    }

    private static void theBestOfAll() {
        for (int drawn = 0; drawn < 600; drawn++) {
            dueBestOfAll(Wheels.drawn(drawn));
            dueBestOfAll(Wheels.drawnFull(drawn));
        }
    }

    private static void dueBestOfAll(FlashRatchet wheel) {
        for (int most = 1; most <= 3; most++) {
            String best = bestOf(wheel, most);
            if (best == null) {
                dueBest(wheel, most, -1, -1, -1);
            } else {
                dueBest(wheel, most, number(best), wheel.average(number(best), 0), wheel.average(number(best), 1));
            }
        }
    }

    private static void neverWithALeverThatIsOut() {
        FlashRatchet wheel = Wheels.even(3, 0, 1, 0);
        dueBest(wheel, 2, number("AB"), -1, 20);
        wheel.gear(1, false);
        wheel.gear(2, false);
        Check.due("AB would be better", wheel.compare(number("AB"), 1), 1);
        dueBest(wheel, 2, 1, -1, 10);
        dueBest(wheel, 3, 1, -1, 10);
    }

    private static void neverWithoutAnAverage() {
        FlashRatchet wheel = Wheels.even(3, 1, 1, 0);
        dueBest(wheel, 1, number("B"), -1, 10);
        dueBest(wheel, 2, number("AB"), -1, 20);
        dueBest(wheel, 3, number("AAB"), -1, 30);
    }

    private static void ofEqualOnesTheShortest() {
        for (int lever = 0; lever <= 2; lever++) {
            FlashRatchet wheel = new FlashRatchet();
            for (int each = 0; each <= 2; each++) {
                Wheels.setAll(wheel, each, 4, 5);
                wheel.gear(each, each >= lever);
            }
            for (int most = 1; most <= 3; most++) {
                dueBest(wheel, most, lever + 1, 1, 10);
            }
        }
        FlashRatchet wheel = Wheels.even(3, 2, 0, 4);
        Wheels.setAll(wheel, 0, 0, 3);
        dueBest(wheel, 3, 3, 2, 5);
    }

    private static void ofEqualOnesOfOneLengthTheLowest() {
        FlashRatchet wheel = new FlashRatchet();
        Wheels.setAll(wheel, 1, 4, 5);
        Wheels.setAll(wheel, 2, 4, 5);
        for (int most = 1; most <= 3; most++) {
            dueBest(wheel, most, number("B"), 1, 10);
        }
        FlashRatchet two = new FlashRatchet();
        two.begin(2);
        two.setTable(0, 0, 0, 10);
        two.setTable(1, 1, 0, 10);
        Check.due("AB is as good as BA", two.compare(number("AB"), number("BA")), 0);
        dueBest(two, 2, number("AB"), 1, 1);
        two.setTable(2, 1, 0, 10);
        Check.due("AB is as good as AC", two.compare(number("AB"), number("AC")), 0);
        dueBest(two, 3, number("AB"), 1, 1);
        two.gear(1, false);
        dueBest(two, 3, number("AC"), 1, 1);
    }

    private static void aLongerOneOnlyIfItIsBetter() {
        FlashRatchet wheel = Wheels.paradox();
        dueBest(wheel, 2, number("B"), -21, 800);
        dueBest(wheel, 3, number("ABB"), 7697, 358100);
    }

    private static void lengthsFrom1To3() {
        FlashRatchet wheel = Wheels.even(3, 0, 1, 0);
        dueBest(wheel, 1, number("A"), -1, 10);
        dueBest(wheel, 2, number("AB"), -1, 20);
        dueBest(wheel, 3, number("ABB"), -1, 30);
        Check.due("four are better, but not considered", wheel.compare(number("ABBB"), number("ABB")), 1);
    }

    private static void partsOfTheBestProgram() {
        FlashRatchet wheel = Wheels.even(2, 2, 0, 10);
        dueBest(wheel, 1, 3, 1, 1);
        FlashRatchet back = Wheels.even(2, 0, 10, 0);
        back.gear(1, false);
        back.gear(2, false);
        dueBest(back, 1, 1, -1, 1);
        dueBest(back, 3, 1, -1, 1);
    }

    private static void noBestProgram() {
        Check.due("NONE", FlashRatchet.NONE, -1);
        FlashRatchet wheel = new FlashRatchet();
        for (int most = 1; most <= 3; most++) {
            dueBest(wheel, most, FlashRatchet.NONE, FlashRatchet.NONE, FlashRatchet.NONE);
        }
        FlashRatchet out = Wheels.even(3, 0, 0, 10);
        for (int lever = 0; lever <= 2; lever++) {
            out.gear(lever, false);
        }
        for (int most = 1; most <= 3; most++) {
            dueBest(out, most, FlashRatchet.NONE, FlashRatchet.NONE, FlashRatchet.NONE);
        }
    }

    private static void allOfOneAndTheSameProgram() {
        for (Start start : Start.values()) {
            FlashRatchet wheel = start.wheel();
            for (int most = 1; most <= 3; most++) {
                int best = (int) wheel.best(most, 0);
                if (best == FlashRatchet.NONE) {
                    dueBest(wheel, most, FlashRatchet.NONE, FlashRatchet.NONE, FlashRatchet.NONE);
                } else {
                    Check.dueThat(best + " is no program of at most " + most, best < Wheels.power(4, most));
                    dueBest(wheel, most, best, wheel.average(best, 0), wheel.average(best, 1));
                }
            }
        }
    }

    private static void noSuchBestProgram() {
        for (int wrong : Wheels.outside(1, 3)) {
            Refused.due("best(" + wrong + ", 0)", Check.ARGUMENT, wheel -> wheel.best(wrong, 0));
        }
        for (int wrong : Wheels.outside(0, 2)) {
            Refused.due("best(1, " + wrong + ")", Check.ARGUMENT, wheel -> wheel.best(1, wrong));
            Refused.due("best(3, " + wrong + ")", Check.ARGUMENT, wheel -> wheel.best(3, wrong));
        }
    }

    // ---- the paradox

    private static void dueParadox(String when, FlashRatchet wheel, int due) {
        Check.due(when + ", paradox()", wheel.paradox(), due);
    }

    private static void eachLoses() {
        FlashRatchet wheel = Wheels.paradox();
        dueParadox("two levers", wheel, 1);
        wheel.gear(2, true);
        Wheels.setAll(wheel, 2, 1, 0);
        dueParadox("three levers", wheel, 1);
        dueParadox("all lose, and together, too", Wheels.of(3, "A:10,10,10;B:20,20,20;C:30,30,30"), 0);
    }

    private static void severalLeversAreNeededToWin() {
        int paradoxes = 0;
        for (int drawn = 0; drawn < 3000; drawn++) {
            FlashRatchet wheel = Wheels.drawnFull(drawn);
            if (wheel.paradox() == 1) {
                paradoxes++;
                dueSeveralLevers("wheel " + drawn, wheel);
            }
        }
        Check.dueThat("only " + paradoxes + " paradoxes were drawn", paradoxes > 10);
    }

    private static void dueSeveralLevers(String when, FlashRatchet wheel) {
        int best = (int) wheel.best(3, 0);
        for (String alone : new String[] {"A", "B", "C", "AA", "BB", "CC", "AAA", "BBB", "CCC"}) {
            Check.dueThat("the best program of " + when + " is " + alone, best != number(alone));
        }
        for (int lever = 0; lever <= 2; lever++) {
            if ((wheel.count(7) >> lever & 1) == 1) {
                Check.due(when + ", the best one against lever " + lever, wheel.compare(best, lever + 1), 1);
            }
        }
    }

    private static void oneIsFair() {
        FlashRatchet wheel = Wheels.paradox();
        wheel.gear(2, true);
        Wheels.setAll(wheel, 2, 1, 1);
        Check.due("C's average", wheel.average(3, 0), 0);
        dueParadox("C's average is 0", wheel, 0);
        Wheels.setAll(wheel, 2, 1, 2);
        dueParadox("C's average is above 0", wheel, 0);
        Wheels.setAll(wheel, 2, 2, 1);
        dueParadox("C's average is below 0", wheel, 1);
    }

    private static void oneHasNoAverage() {
        FlashRatchet wheel = Wheels.paradox();
        wheel.gear(2, true);
        Check.due("C's classes", wheel.classes(3), 3);
        dueParadox("C has no average", wheel, 0);
    }

    private static void onlyLeversThatAreIn() {
        for (int out = 0; out <= 2; out++) {
            FlashRatchet wheel = Wheels.paradox();
            wheel.gear(2, true);
            Wheels.setAll(wheel, 2, 0, 5);
            wheel.gear(out, false);
            dueParadox("C wins, without " + out, wheel, out == 2 ? 1 : 0);
        }
    }

    private static void theBestIsFair() {
        FlashRatchet wheel = Wheels.of(2, "A:12,72;B:28,91");
        wheel.gear(2, false);
        Check.dueThat("A loses, B loses", wheel.average(1, 0) < 0 && wheel.average(2, 0) < 0);
        dueBest(wheel, 3, number("AB"), 0, 1);
        dueParadox("AB is fair", wheel, 0);
    }

    private static void theBestWinsAlmostNothing() {
        FlashRatchet wheel = Wheels.of(2, "A:43,10;B:20,24");
        wheel.gear(2, false);
        dueBest(wheel, 3, number("AB"), 1, 240);
        dueParadox("AB wins 1/240", wheel, 1);
    }

    private static void onlyProgramsOfFourLeversWin() {
        FlashRatchet wheel = Wheels.of(2, "A:44,50;B:80,90;C:10,13");
        for (int lever = 1; lever <= 3; lever++) {
            Check.dueThat("lever " + lever + " loses", wheel.average(lever, 0) < 0);
        }
        Check.dueThat("three levers lose", wheel.best(3, 1) < 0);
        Check.dueThat("ACCC wins", wheel.average(number("ACCC"), 0) > 0);
        dueParadox("ACCC is too long", wheel, 0);
    }

    private static void oneLeverAlone() {
        for (int lever = 0; lever <= 2; lever++) {
            FlashRatchet wheel = Wheels.even(3, lever, 2, 1);
            for (int other = 0; other <= 2; other++) {
                wheel.gear(other, other == lever);
            }
            dueParadox("a lever that loses", wheel, 0);
            Wheels.setAll(wheel, lever, 1, 2);
            dueParadox("a lever that wins", wheel, 0);
        }
    }

    private static void noLeverIsIn() {
        for (int positions = 2; positions <= 4; positions++) {
            FlashRatchet wheel = Wheels.even(positions, 0, 0, 10);
            Wheels.setAll(wheel, 1, 10, 0);
            for (int lever = 0; lever <= 2; lever++) {
                wheel.gear(lever, false);
            }
            dueParadox("no lever", wheel, 0);
        }
    }

    private static void paradoxesByTheirDefinition() {
        for (int drawn = 0; drawn < 2000; drawn++) {
            dueParadoxByItsDefinition("wheel " + drawn, Wheels.drawn(drawn));
            dueParadoxByItsDefinition("full wheel " + drawn, Wheels.drawnFull(drawn));
        }
    }

    private static void dueParadoxByItsDefinition(String when, FlashRatchet wheel) {
        boolean isParadox = wheel.count(7) != 0 && wheel.best(3, 0) != FlashRatchet.NONE && wheel.best(3, 1) > 0;
        for (int lever = 0; lever <= 2; lever++) {
            boolean isIn = (wheel.count(7) >> lever & 1) == 1;
            isParadox &= !isIn || wheel.average(lever + 1, 0) < 0;
        }
        dueParadox(when, wheel, isParadox ? 1 : 0);
    }
}
