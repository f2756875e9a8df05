/** Promises 17 to 22: averages, shares, classes, the best program and the paradox. */
public final class AverageTest {
    private AverageTest() {
    }

    public static void main(String[] arguments) {
        promise17Average();
        promise17NotOfThePresent();
        promise18Share();
        promise19Classes();
        promise19RoundsCount();
        promise20Compare();
        promise20CloseAverages();
        promise21Best();
        promise21Ties();
        promise22Paradox();
        promise22Otherwise();
        Check.end();
    }

    private static void dueAverage(String when, FlashRatchet wheel, int program, long above, long below) {
        Check.due(when + ", average(" + program + ", 0)", wheel.average(program, 0), above);
        Check.due(when + ", average(" + program + ", 1)", wheel.average(program, 1), below);
    }

    private static void dueShare(String when, FlashRatchet wheel, int[] at, long above, long below) {
        Check.due(when + ", numerator of the share of " + at[1], wheel.share(at[0], at[1], 0), above);
        Check.due(when + ", denominator of the share of " + at[1], wheel.share(at[0], at[1], 1), below);
    }

    private static FlashRatchet wheelOf(int positions, String text) {
        FlashRatchet wheel = new FlashRatchet();
        wheel.begin(positions);
        Check.load(wheel, text);
        return wheel;
    }

    /** A and B lose, and so do all mixtures of two ticks; ABB wins. */
    private static FlashRatchet paradoxWheel() {
        FlashRatchet wheel = new FlashRatchet();
        Check.load(wheel, "A:54,54,54;B:70,15,15");
        wheel.gear(2, false);
        return wheel;
    }

    private static void promise17Average() {
        FlashRatchet wheel = wheelOf(2, "A:04,60");
        dueAverage("two positions", wheel, 1, 0, 1);
        Check.load(wheel, "A:04,06;B:41,12");
        dueAverage("round and round", wheel, 1, 12, 25);
        dueAverage("more back than forward", wheel, 2, -1, 20);
        wheel.pawl(0, true);
        dueAverage("a pawl", wheel, 2, 1, 10);
        wheel.pawl(0, false);
        wheel.pawl(1, true);
        dueAverage("the other pawl", wheel, 2, 2, 35);
        FlashRatchet other = new FlashRatchet();
        dueAverage("three classes", other, 1, 0, 0);
        Check.dueThrow("program 0", other, Check.ARGUMENT, () -> other.average(0, 0));
        Check.dueThrow("program 4", other, Check.ARGUMENT, () -> other.average(4, 0));
        Check.dueThrow("program 256", other, Check.ARGUMENT, () -> other.average(256, 0));
        Check.dueThrow("program -1", other, Check.ARGUMENT, () -> other.average(-1, 1));
        Check.dueThrow("what 2", other, Check.ARGUMENT, () -> other.average(1, 2));
        Check.dueThrow("what -1", other, Check.ARGUMENT, () -> other.average(1, -1));
    }

    private static void promise17NotOfThePresent() {
        FlashRatchet wheel = wheelOf(3, "A:19,28,37;B:46,55,64");
        long above = wheel.average(6, 0);
        long below = wheel.average(6, 1);
        wheel.setProgram(27);
        wheel.restart(2, 500);
        wheel.run(7);
        dueAverage("later", wheel, 6, above, below);
        long before = wheel.digest();
        wheel.average(91, 1);
        Check.due("average changes nothing", wheel.digest(), before);
    }

    private static void promise18Share() {
        FlashRatchet wheel = wheelOf(2, "A:04,06");
        dueShare("from 0 and 1", wheel, new int[] {1, 0}, 3, 5);
        dueShare("from 0 and 1", wheel, new int[] {1, 1}, 2, 5);
        Check.load(wheel, "A:00,06");
        dueShare("at 0 for ever", wheel, new int[] {1, 0}, 1, 1);
        dueShare("at 0 for ever", wheel, new int[] {1, 1}, 0, 1);
        Check.load(wheel, "A:00,00");
        dueShare("two classes", wheel, new int[] {1, 0}, 0, 0);
        dueShare("two classes", wheel, new int[] {1, 1}, 0, 0);
        FlashRatchet four = wheelOf(4, "A:01,02,04,08");
        dueShare("8 of 15", four, new int[] {1, 0}, 8, 15);
        dueShare("4 of 15", four, new int[] {1, 1}, 4, 15);
        dueShare("2 of 15", four, new int[] {1, 2}, 2, 15);
        dueShare("1 of 15", four, new int[] {1, 3}, 1, 15);
        Check.dueThrow("position 4", four, Check.INDEX, () -> four.share(1, 4, 0));
        Check.dueThrow("position -1", four, Check.INDEX, () -> four.share(1, -1, 0));
        Check.dueThrow("position before program", four, Check.INDEX, () -> four.share(0, 4, 0));
        Check.dueThrow("position before what", four, Check.INDEX, () -> four.share(1, 4, 2));
        Check.dueThrow("program 4", four, Check.ARGUMENT, () -> four.share(4, 0, 0));
        Check.dueThrow("what 2", four, Check.ARGUMENT, () -> four.share(1, 0, 2));
        Check.dueThrow("what -1", four, Check.ARGUMENT, () -> four.share(1, 0, -1));
        Check.dueThrow("position 2 of 2", wheel, Check.INDEX, () -> wheel.share(1, 2, 0));
    }

    private static void promise19Classes() {
        FlashRatchet wheel = new FlashRatchet();
        for (int positions = 2; positions <= 4; positions++) {
            wheel.begin(positions);
            Check.due("standing at " + positions, wheel.classes(1), positions);
        }
        wheel.setTable(0, 0, 0, 1);
        Check.due("0 leads to 1", wheel.classes(1), 3);
        wheel.setTable(0, 1, 1, 0);
        Check.due("0 and 1 together", wheel.classes(1), 3);
        wheel.setTable(0, 1, 1, 1);
        Check.due("0 and 1 lead to 2", wheel.classes(1), 2);
        wheel.setTable(0, 3, 1, 0);
        Check.due("all lead to 2", wheel.classes(1), 1);
        wheel.gear(0, false);
        Check.due("geared out", wheel.classes(1), 4);
        wheel.gear(0, true);
        wheel.pawl(3, true);
        Check.due("a pawl at 3", wheel.classes(1), 2);
        Check.due("another lever", wheel.classes(2), 4);
        for (int wrong : new int[] {0, 4, 12, 256, 341, -1, Integer.MIN_VALUE, Integer.MAX_VALUE}) {
            Check.dueThrow("classes(" + wrong + ")", wheel, Check.ARGUMENT, () -> wheel.classes(wrong));
        }
    }

    private static void promise19RoundsCount() {
        FlashRatchet wheel = new FlashRatchet();
        wheel.begin(4);
        for (int position = 0; position < 4; position++) {
            wheel.setTable(0, position, 0, 10);
            wheel.setTable(1, position, 10, 0);
        }
        Check.due("A goes round", wheel.classes(1), 1);
        Check.due("AA meets every other position", wheel.classes(5), 2);
        Check.due("AAA goes round", wheel.classes(21), 1);
        Check.due("AAAA stays", wheel.classes(85), 4);
        Check.due("AB stays", wheel.classes(6), 4);
        dueAverage("A", wheel, 1, 1, 1);
        dueAverage("AA", wheel, 5, 0, 0);
        dueAverage("AAB", wheel, 22, 1, 3);
        dueAverage("B", wheel, 2, -1, 1);
    }

    private static void promise20Compare() {
        FlashRatchet wheel = wheelOf(3, "A:19,19,19;B:28,28,28;C:10,10,10");
        Check.due("A with B", wheel.compare(1, 2), 1);
        Check.due("B with A", wheel.compare(2, 1), -1);
        Check.due("A with A", wheel.compare(1, 1), 0);
        Check.due("A with AA", wheel.compare(1, 5), 0);
        Check.due("AB with BA", wheel.compare(6, 9), 0);
        Check.due("C with B", wheel.compare(3, 2), -1);
        Check.due("B with C", wheel.compare(2, 3), 1);
        wheel.gear(2, false);
        Check.dueThrow("C has none", wheel, Check.STATE, () -> wheel.compare(3, 1));
        Check.dueThrow("A with C, which has none", wheel, Check.STATE, () -> wheel.compare(1, 3));
        Check.dueThrow("C with CC", wheel, Check.STATE, () -> wheel.compare(3, 15));
        Check.dueThrow("program 0", wheel, Check.ARGUMENT, () -> wheel.compare(0, 1));
        Check.dueThrow("program 4", wheel, Check.ARGUMENT, () -> wheel.compare(1, 4));
        Check.dueThrow("argument before state", wheel, Check.ARGUMENT, () -> wheel.compare(3, 256));
        Check.dueThrow("argument before state, turned over", wheel, Check.ARGUMENT, () -> wheel.compare(-1, 3));
    }

    /** Averages with long numerators, whose products would leave a long. */
    private static void promise20CloseAverages() {
        Model model = new Model();
        model.begin(4);
        model.load("A:18,28,37,46;B:82,71,64,19;C:91,17,36,52");
        for (int one = 85; one < 256; one++) {
            FlashRatchet wheel = wheelOf(4, "A:18,28,37,46;B:82,71,64,19;C:91,17,36,52");
            for (int other = 86; other < 256; other += 5) {
                if (Model.isProgram(one) && Model.isProgram(other)) {
                    Check.due("compare(" + one + ", " + other + ")", wheel.compare(one, other), model.compare(one, other));
                }
            }
        }
    }

    private static void dueBest(String when, FlashRatchet wheel, int most, long... parts) {
        for (int what = 0; what < 3; what++) {
            Check.due(when + ", best(" + most + ", " + what + ")", wheel.best(most, what), parts[what]);
        }
    }

    private static void promise21Best() {
        FlashRatchet wheel = new FlashRatchet();
        dueBest("no average", wheel, 3, -1, -1, -1);
        Check.load(wheel, "A:19,19,19;B:28,28,28;C:10,10,10");
        dueBest("A", wheel, 1, 1, 4, 5);
        dueBest("A", wheel, 3, 1, 4, 5);
        wheel.gear(0, false);
        dueBest("B", wheel, 2, 2, 3, 5);
        wheel.gear(1, false);
        dueBest("C", wheel, 3, 3, -1, 10);
        wheel.gear(2, false);
        dueBest("none geared in", wheel, 3, -1, -1, -1);
        FlashRatchet mixed = paradoxWheel();
        dueBest("B", mixed, 1, 2, -21, 800);
        dueBest("still B", mixed, 2, 2, -21, 800);
        dueBest("ABB", mixed, 3, 26, 7697, 358100);
        mixed.gear(0, false);
        dueBest("without A", mixed, 3, 2, -21, 800);
        Check.dueThrow("most 0", mixed, Check.ARGUMENT, () -> mixed.best(0, 0));
        Check.dueThrow("most 4", mixed, Check.ARGUMENT, () -> mixed.best(4, 0));
        Check.dueThrow("most -1", mixed, Check.ARGUMENT, () -> mixed.best(-1, 0));
        Check.dueThrow("what 3", mixed, Check.ARGUMENT, () -> mixed.best(1, 3));
        Check.dueThrow("what -1", mixed, Check.ARGUMENT, () -> mixed.best(1, -1));
    }

    private static void promise21Ties() {
        FlashRatchet wheel = wheelOf(3, "A:44,44,44;B:44,44,44;C:44,44,44");
        dueBest("all are equal", wheel, 3, 1, 0, 1);
        wheel.gear(0, false);
        dueBest("all but A", wheel, 3, 2, 0, 1);
        FlashRatchet two = new FlashRatchet();
        two.begin(2);
        // A moves from 0 alone, B from 1 alone, both without a doubt: only together they go round.
        two.setTable(0, 0, 0, 10);
        two.setTable(1, 1, 0, 10);
        dueBest("A and B alone", two, 1, 1, 0, 1);
        Check.due("AB goes round", two.average(6, 0), 1);
        dueBest("AB", two, 2, 6, 1, 1);
        dueBest("AB", two, 3, 6, 1, 1);
        Check.due("BA is as good", two.compare(6, 9), 0);
    }

    private static void promise22Paradox() {
        FlashRatchet wheel = paradoxWheel();
        dueAverage("A loses", wheel, 1, -1, 10);
        dueAverage("B loses", wheel, 2, -21, 800);
        Check.due("paradox", wheel.paradox(), 1);
        wheel.gear(2, true);
        Check.due("C has no average", wheel.paradox(), 0);
        Check.load(wheel, "C:10,10,10");
        Check.due("C loses", wheel.paradox(), 1);
        Check.load(wheel, "C:11,11,11");
        Check.due("C is fair", wheel.paradox(), 0);
        Check.load(wheel, "C:01,01,01");
        Check.due("C wins", wheel.paradox(), 0);
        wheel.gear(2, false);
        Check.due("without C", wheel.paradox(), 1);
        wheel.setTable(0, 0, 1, 9);
        wheel.setTable(0, 1, 1, 9);
        Check.due("A wins", wheel.paradox(), 0);
        wheel.gear(0, false);
        Check.due("B alone", wheel.paradox(), 0);
    }

    private static void promise22Otherwise() {
        FlashRatchet wheel = new FlashRatchet();
        Check.due("standing", wheel.paradox(), 0);
        Check.load(wheel, "A:10,10,10;B:20,20,20;C:30,30,30");
        Check.due("all lose", wheel.paradox(), 0);
        FlashRatchet even = wheelOf(2, "A:12,72;B:28,91");
        even.gear(2, false);
        Check.due("A loses, B loses", even.average(1, 0) < 0 && even.average(2, 0) < 0 ? 1 : 0, 1);
        dueBest("together they only break even", even, 3, 6, 0, 1);
        Check.due("no gain, no paradox", even.paradox(), 0);
        for (int lever = 0; lever < 3; lever++) {
            wheel.gear(lever, false);
        }
        Check.due("no lever", wheel.paradox(), 0);
    }
}
