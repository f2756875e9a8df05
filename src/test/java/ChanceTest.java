/** Promises 13 to 16: how a run goes on, and exact chances. */
public final class ChanceTest {
    private ChanceTest() {
    }

    public static void main(String[] arguments) {
        promise13StandingWheel();
        promise13Leads();
        promise13LongPeriod();
        promise13Refusals();
        promise14Chance();
        promise14ProgramAndIndex();
        promise15ChanceOfGain();
        promise16Game();
        promise16Edges();
        promise16Refusals();
        Check.end();
    }

    private static void dueCycle(String when, FlashRatchet wheel, int lead, int period, int gain) {
        Check.due(when + ", cycle(0)", wheel.cycle(0), lead);
        Check.due(when + ", cycle(1)", wheel.cycle(1), period);
        Check.due(when + ", cycle(2)", wheel.cycle(2), gain);
    }

    private static void promise13StandingWheel() {
        FlashRatchet wheel = new FlashRatchet();
        dueCycle("standing", wheel, 0, 1000, 0);
        wheel.setProgram(5);
        dueCycle("standing, AA", wheel, 0, 1000, 0);
        wheel.setProgram(21);
        dueCycle("standing, AAA", wheel, 0, 3000, 0);
        wheel.setProgram(85);
        dueCycle("standing, AAAA", wheel, 0, 1000, 0);
    }

    private static void promise13Leads() {
        FlashRatchet wheel = new FlashRatchet();
        wheel.setTable(0, 0, 0, 10);
        dueCycle("one step forward", wheel, 1, 1000, 0);
        wheel.setTable(0, 1, 0, 10);
        dueCycle("two steps forward", wheel, 2, 1000, 0);
        long before = wheel.digest();
        wheel.cycle(0);
        Check.due("cycle changes nothing", wheel.digest(), before);
        wheel.run(1);
        dueCycle("one tick later", wheel, 1, 1000, 0);
        wheel.setProgram(14);
        dueCycle("CB", wheel, 0, 1000, 0);
        wheel.begin(3);
        wheel.setTable(0, 0, 0, 1);
        // The least draw of 9 from seed 0 on.
        int ticks = 0;
        for (int seed = 0; seed < 900; seed = (141 * seed + 187) % 1000) {
            ticks++;
        }
        dueCycle("waiting for a draw of 9", wheel, ticks, 1000, 0);
    }

    private static void promise13LongPeriod() {
        FlashRatchet wheel = new FlashRatchet();
        for (int position = 0; position < 3; position++) {
            wheel.setTable(0, position, 0, 10);
        }
        dueCycle("1000 steps forward make a third of a turn", wheel, 0, 3000, 3000);
        wheel.restart(0, 123);
        wheel.run(500);
        dueCycle("later, too", wheel, 0, 3000, 3000);
        wheel.setProgram(6);
        dueCycle("500 steps are two more", wheel, 0, 3000, 1500);
        wheel.setProgram(22);
        dueCycle("AAB with 2000 steps", wheel, 0, 9000, 6000);
        wheel.gear(0, false);
        dueCycle("geared out", wheel, 0, 3000, 0);
        wheel.gear(0, true);
        wheel.begin(4);
        wheel.setTable(1, 0, 10, 0);
        wheel.setTable(1, 1, 10, 0);
        wheel.setTable(1, 2, 10, 0);
        wheel.setTable(1, 3, 10, 0);
        wheel.setProgram(2);
        dueCycle("back on 4 positions", wheel, 0, 1000, -1000);
        wheel.pawl(1, true);
        dueCycle("back to the pawl", wheel, 3, 1000, 0);
        wheel.setTable(1, 0, 9, 0);
        wheel.pawl(1, false);
        // The draw is 9 a hundred times in 1000 seeds, and no draw depends on the position.
        wheel.setProgram(1);
        dueCycle("A stands", wheel, 0, 1000, 0);
    }

    private static void promise13Refusals() {
        FlashRatchet wheel = new FlashRatchet();
        for (int wrong : new int[] {3, -1, Integer.MIN_VALUE, Integer.MAX_VALUE}) {
            Check.dueThrow("cycle(" + wrong + ")", wheel, Check.ARGUMENT, () -> wheel.cycle(wrong));
        }
    }

    private static void dueChances(String when, FlashRatchet wheel, int ticks, long... chances) {
        for (int position = 0; position < chances.length; position++) {
            Check.due(when + ", chance(" + ticks + ", " + position + ")", wheel.chance(ticks, position), chances[position]);
        }
    }

    private static void promise14Chance() {
        FlashRatchet wheel = new FlashRatchet();
        Check.load(wheel, "A:23,10,05");
        dueChances("at 0", wheel, 0, 1, 0, 0);
        dueChances("from 0", wheel, 1, 5, 3, 2);
        dueChances("from 0", wheel, 2, 25 + 3 + 10, 15 + 27, 10 + 10);
        wheel.pawl(0, true);
        dueChances("with a pawl", wheel, 1, 7, 3, 0);
        wheel.pawl(0, false);
        wheel.gear(0, false);
        dueChances("geared out", wheel, 15, 1000000000000000L, 0, 0);
        wheel.gear(0, true);
        wheel.begin(2);
        Check.load(wheel, "A:23,40");
        dueChances("on 2 positions", wheel, 1, 5, 5);
        dueChances("on 2 positions", wheel, 2, 45, 55);
        wheel.begin(4);
        wheel.setTable(0, 0, 10, 0);
        dueChances("back from 0", wheel, 1, 0, 0, 0, 10);
        Check.dueThrow("ticks 16", wheel, Check.ARGUMENT, () -> wheel.chance(16, 0));
        Check.dueThrow("ticks -1", wheel, Check.ARGUMENT, () -> wheel.chance(-1, 0));
        Check.dueThrow("ticks before position", wheel, Check.ARGUMENT, () -> wheel.chance(16, 4));
        Check.dueThrow("position 4", wheel, Check.INDEX, () -> wheel.chance(0, 4));
        Check.dueThrow("position -1", wheel, Check.INDEX, () -> wheel.chance(15, -1));
    }

    private static void promise14ProgramAndIndex() {
        FlashRatchet wheel = new FlashRatchet();
        wheel.setTable(0, 0, 0, 10);
        wheel.setTable(1, 1, 0, 4);
        wheel.setTable(1, 0, 1, 0);
        wheel.setProgram(6);
        dueChances("AB from 0", wheel, 1, 0, 10, 0);
        dueChances("AB from 0", wheel, 2, 0, 60, 40);
        wheel.run(1);
        Check.due("the index is 1", wheel.count(3), 1);
        dueChances("B from 1", wheel, 1, 0, 6, 4);
        wheel.run(1);
        Check.due("the index is 0", wheel.count(3), 0);
        wheel.restart(0, 5);
        wheel.setProgram(9);
        dueChances("BA from 0", wheel, 2, 0, 90, 10);
    }

    private static void promise15ChanceOfGain() {
        FlashRatchet wheel = new FlashRatchet();
        Check.load(wheel, "A:23,23,23");
        Check.due("chanceOfGain(0, 0)", wheel.chanceOfGain(0, 0), 1);
        Check.due("chanceOfGain(0, 1)", wheel.chanceOfGain(0, 1), 0);
        Check.due("chanceOfGain(1, 1)", wheel.chanceOfGain(1, 1), 3);
        Check.due("chanceOfGain(1, 0)", wheel.chanceOfGain(1, 0), 8);
        Check.due("chanceOfGain(1, -1)", wheel.chanceOfGain(1, -1), 10);
        Check.due("chanceOfGain(2, 2)", wheel.chanceOfGain(2, 2), 9);
        Check.due("chanceOfGain(2, 1)", wheel.chanceOfGain(2, 1), 39);
        Check.due("chanceOfGain(2, -1)", wheel.chanceOfGain(2, -1), 96);
        Check.due("chanceOfGain(15, 15)", wheel.chanceOfGain(15, 15), 14348907);
        Check.due("chanceOfGain(15, 16)", wheel.chanceOfGain(15, 16), 0);
        Check.due("chanceOfGain(15, -14)", wheel.chanceOfGain(15, -14), 1000000000000000L - 32768);
        Check.due("chanceOfGain(15, -15)", wheel.chanceOfGain(15, -15), 1000000000000000L);
        Check.due("at least the least int", wheel.chanceOfGain(15, Integer.MIN_VALUE), 1000000000000000L);
        Check.due("at least the greatest int", wheel.chanceOfGain(15, Integer.MAX_VALUE), 0);
        wheel.run(100);
        Check.due("the present gain does not count", wheel.chanceOfGain(1, 1), 3);
        for (int position = 0; position < 3; position++) {
            wheel.pawl(position, true);
        }
        Check.due("with pawls", wheel.chanceOfGain(3, 0), 1000);
        Check.dueThrow("ticks 16", wheel, Check.ARGUMENT, () -> wheel.chanceOfGain(16, 0));
        Check.dueThrow("ticks -1", wheel, Check.ARGUMENT, () -> wheel.chanceOfGain(-1, 0));
    }

    private static void dueGame(String when, FlashRatchet wheel, int[] game, long... chances) {
        for (int what = 0; what < chances.length; what++) {
            Check.due(when + ", game with " + game[0] + ", " + game[1] + ", " + game[2] + ", " + what,
                    wheel.game(game[0], game[1], game[2], what), chances[what]);
        }
    }

    private static void promise16Game() {
        FlashRatchet wheel = new FlashRatchet();
        Check.load(wheel, "A:23,23,23");
        dueGame("0 ticks", wheel, new int[] {1, 1, 0}, 0, 0, 1);
        dueGame("1 tick", wheel, new int[] {1, 1, 1}, 2, 3, 5);
        dueGame("2 ticks", wheel, new int[] {1, 1, 2}, 30, 45, 25);
        dueGame("2 ticks", wheel, new int[] {2, 1, 2}, 4, 45, 51);
        dueGame("2 ticks", wheel, new int[] {1, 2, 2}, 30, 9, 61);
        dueGame("3 ticks", wheel, new int[] {1, 2, 3}, 200 + 100 + 50 + 12, 90 + 45 + 45, 458);
        wheel.run(500);
        dueGame("the present gain does not count", wheel, new int[] {1, 1, 1}, 2, 3, 5);
    }

    private static void promise16Edges() {
        FlashRatchet wheel = new FlashRatchet();
        Check.load(wheel, "A:91,91,91");
        long all = 1000000000000000L;
        dueGame("15 ticks", wheel, new int[] {15, 15, 15}, 205891132094649L, 1, all - 205891132094649L - 1);
        Check.load(wheel, "A:00,00,00");
        dueGame("standing", wheel, new int[] {1, 1, 15}, 0, 0, all);
        wheel.setTable(0, 0, 10, 0);
        dueGame("lost at once", wheel, new int[] {1, 1, 15}, all, 0, 0);
        wheel.pawl(0, true);
        dueGame("held by a pawl", wheel, new int[] {1, 1, 15}, 0, 0, all);
        wheel.setTable(0, 0, 0, 10);
        dueGame("won at once", wheel, new int[] {1, 1, 15}, 0, all, 0);
    }

    private static void promise16Refusals() {
        FlashRatchet wheel = new FlashRatchet();
        int[][] wrong = {{0, 1, 1, 0}, {16, 1, 1, 0}, {-1, 1, 1, 0}, {1, 0, 1, 0}, {1, 16, 1, 0}, {1, -5, 1, 0}, {1, 1, -1, 0},
            {1, 1, 16, 0}, {1, 1, 1, -1}, {1, 1, 1, 3}, {Integer.MIN_VALUE, 1, 1, 0}, {1, Integer.MAX_VALUE, 1, 0}};
        for (int[] each : wrong) {
            Check.dueThrow("game(" + each[0] + ", " + each[1] + ", " + each[2] + ", " + each[3] + ")", wheel, Check.ARGUMENT,
                    () -> wheel.game(each[0], each[1], each[2], each[3]));
        }
        Check.due("game(15, 15, 15, 2)", wheel.game(15, 15, 15, 2), 1000000000000000L);
        Check.due("game(1, 1, 0, 2)", wheel.game(1, 1, 0, 2), 1);
    }
}
