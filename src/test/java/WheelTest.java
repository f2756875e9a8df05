/** Promises 1 to 8: a new object, what is set on the wheel, and runs. */
public final class WheelTest {
    private WheelTest() {
    }

    public static void main(String[] arguments) {
        promise1NewObject();
        promise2Begin();
        promise3SetTable();
        promise4Gear();
        promise5Pawl();
        promise6SetProgram();
        promise7Restart();
        promise8Run();
        promise8RunWithPawlsAndGears();
        Check.end();
    }

    private static void dueCounts(String when, FlashRatchet wheel, int... counts) {
        for (int what = 0; what < counts.length; what++) {
            Check.due(when + ", count(" + what + ")", wheel.count(what), counts[what]);
        }
    }

    private static void dueTables(String when, FlashRatchet wheel, int numbers) {
        for (int lever = 0; lever < 3; lever++) {
            for (int position = 0; position < wheel.count(0); position++) {
                Check.due(when + ", table(" + lever + ", " + position + ")", wheel.table(lever, position), numbers);
            }
        }
    }

    private static void promise1NewObject() {
        FlashRatchet wheel = new FlashRatchet();
        dueCounts("new", wheel, 3, 0, 1, 0, 0, 0, 0, 7, 0, 1);
        dueTables("new", wheel, 0);
        Check.due("new, clearBuffer()", wheel.clearBuffer(), 0);
        Check.due("NONE", FlashRatchet.NONE, -1);
    }

    private static void promise2Begin() {
        FlashRatchet wheel = new FlashRatchet();
        Check.due("begin(4)", wheel.begin(4), 3);
        for (int lever = 0; lever < 3; lever++) {
            for (int position = 0; position < 4; position++) {
                wheel.setTable(lever, position, 1, 2);
            }
        }
        wheel.gear(1, false);
        wheel.pawl(3, true);
        wheel.setProgram(27);
        wheel.restart(2, 77);
        wheel.run(50);
        wheel.append('A');
        Check.due("begin(2)", wheel.begin(2), 4);
        dueCounts("after begin(2)", wheel, 2, 0, 1, 0, 0, 0, 0, 7, 0, 1);
        dueTables("after begin(2)", wheel, 0);
        Check.due("begin(4) again", wheel.begin(4), 2);
        dueCounts("after begin(4)", wheel, 4, 0, 1, 0, 0, 0, 0, 7, 0, 1);
        dueTables("after begin(4)", wheel, 0);
        Check.due("the buffer stays", wheel.clearBuffer(), 1);
        for (int wrong : new int[] {1, 5, 0, -1, Integer.MIN_VALUE, Integer.MAX_VALUE}) {
            Check.dueThrow("begin(" + wrong + ")", wheel, Check.ARGUMENT, () -> wheel.begin(wrong));
        }
    }

    private static void promise3SetTable() {
        FlashRatchet wheel = new FlashRatchet();
        Check.due("setTable(0, 0, 10, 0)", wheel.setTable(0, 0, 10, 0), 0);
        Check.due("setTable(0, 0, 0, 10)", wheel.setTable(0, 0, 0, 10), 1000);
        Check.due("setTable(0, 0, 3, 7)", wheel.setTable(0, 0, 3, 7), 10);
        Check.due("setTable(2, 2, 4, 5)", wheel.setTable(2, 2, 4, 5), 0);
        Check.due("table(0, 0)", wheel.table(0, 0), 307);
        Check.due("table(2, 2)", wheel.table(2, 2), 405);
        Check.due("table(2, 1)", wheel.table(2, 1), 0);
        Check.due("table(1, 2)", wheel.table(1, 2), 0);
        Check.dueThrow("lever 3", wheel, Check.INDEX, () -> wheel.setTable(3, 0, 0, 0));
        Check.dueThrow("lever -1", wheel, Check.INDEX, () -> wheel.setTable(-1, 0, 0, 0));
        Check.dueThrow("position 3 of 3", wheel, Check.INDEX, () -> wheel.setTable(0, 3, 0, 0));
        Check.dueThrow("position -1", wheel, Check.INDEX, () -> wheel.setTable(0, -1, 0, 0));
        Check.dueThrow("lever before numbers", wheel, Check.INDEX, () -> wheel.setTable(3, 0, 11, 0));
        Check.dueThrow("position before numbers", wheel, Check.INDEX, () -> wheel.setTable(0, 3, 6, 6));
        Check.dueThrow("back 11", wheel, Check.ARGUMENT, () -> wheel.setTable(0, 0, 11, 0));
        Check.dueThrow("forward 11", wheel, Check.ARGUMENT, () -> wheel.setTable(0, 0, 0, 11));
        Check.dueThrow("back -1", wheel, Check.ARGUMENT, () -> wheel.setTable(0, 0, -1, 5));
        Check.dueThrow("forward -1", wheel, Check.ARGUMENT, () -> wheel.setTable(0, 0, 5, -1));
        Check.dueThrow("sum 11", wheel, Check.ARGUMENT, () -> wheel.setTable(0, 0, 5, 6));
        Check.dueThrow("sum that overflows", wheel, Check.ARGUMENT,
                () -> wheel.setTable(0, 0, Integer.MAX_VALUE, Integer.MAX_VALUE));
        wheel.begin(2);
        Check.dueThrow("position 2 of 2", wheel, Check.INDEX, () -> wheel.setTable(0, 2, 0, 0));
        wheel.begin(4);
        Check.due("position 3 of 4", wheel.setTable(0, 3, 1, 1), 0);
        Check.dueThrow("position 4 of 4", wheel, Check.INDEX, () -> wheel.setTable(0, 4, 0, 0));
    }

    private static void promise4Gear() {
        FlashRatchet wheel = new FlashRatchet();
        Check.due("gear(1, false)", wheel.gear(1, false), 2);
        Check.due("count(7) without B", wheel.count(7), 5);
        Check.due("gear(1, false) again", wheel.gear(1, false), 2);
        Check.due("gear(0, false)", wheel.gear(0, false), 1);
        Check.due("gear(2, false)", wheel.gear(2, false), 0);
        Check.due("count(7) without any", wheel.count(7), 0);
        Check.due("gear(2, true)", wheel.gear(2, true), 1);
        Check.due("count(7) with C", wheel.count(7), 4);
        Check.due("gear(2, true) again", wheel.gear(2, true), 1);
        for (int wrong : new int[] {3, -1, 32, Integer.MIN_VALUE, Integer.MAX_VALUE}) {
            Check.dueThrow("gear(" + wrong + ", true)", wheel, Check.INDEX, () -> wheel.gear(wrong, true));
            Check.dueThrow("gear(" + wrong + ", false)", wheel, Check.INDEX, () -> wheel.gear(wrong, false));
        }
    }

    private static void promise5Pawl() {
        FlashRatchet wheel = new FlashRatchet();
        Check.due("pawl(2, true)", wheel.pawl(2, true), 1);
        Check.due("pawl(2, true) again", wheel.pawl(2, true), 1);
        Check.due("pawl(0, true)", wheel.pawl(0, true), 2);
        Check.due("count(8)", wheel.count(8), 5);
        Check.due("pawl(1, false)", wheel.pawl(1, false), 2);
        Check.due("pawl(2, false)", wheel.pawl(2, false), 1);
        Check.due("count(8) afterwards", wheel.count(8), 1);
        for (int wrong : new int[] {3, -1, 32, Integer.MIN_VALUE, Integer.MAX_VALUE}) {
            Check.dueThrow("pawl(" + wrong + ", true)", wheel, Check.INDEX, () -> wheel.pawl(wrong, true));
        }
        wheel.begin(4);
        Check.due("pawl(3, true) of 4", wheel.pawl(3, true), 1);
        wheel.begin(2);
        Check.dueThrow("pawl(2, true) of 2", wheel, Check.INDEX, () -> wheel.pawl(2, true));
    }

    private static void promise6SetProgram() {
        FlashRatchet wheel = new FlashRatchet();
        Check.due("setProgram(27)", wheel.setProgram(27), 1);
        wheel.run(2);
        dueCounts("ABC after 2 ticks", wheel, 3, 0, 27, 2, 554, 0, 2, 7, 0, 3);
        Check.due("setProgram(255)", wheel.setProgram(255), 27);
        dueCounts("CCCC", wheel, 3, 0, 255, 0, 554, 0, 2, 7, 0, 4);
        Check.due("setProgram(85)", wheel.setProgram(85), 255);
        Check.due("setProgram(3)", wheel.setProgram(3), 85);
        Check.due("setProgram(5)", wheel.setProgram(5), 3);
        int programs = 0;
        for (int number = -5; number < 2000; number++) {
            programs += tryProgram(number) ? 1 : 0;
        }
        Check.due("programs", programs, 3 + 9 + 27 + 81);
        Check.dueThrow("setProgram(least int)", wheel, Check.ARGUMENT, () -> wheel.setProgram(Integer.MIN_VALUE));
        Check.dueThrow("setProgram(greatest int)", wheel, Check.ARGUMENT, () -> wheel.setProgram(Integer.MAX_VALUE));
    }

    private static boolean tryProgram(int number) {
        FlashRatchet wheel = new FlashRatchet();
        boolean isProgram = number > 0 && Integer.toString(number, 4).matches("[123]{1,4}");
        if (isProgram) {
            wheel.setProgram(number);
            Check.due("count(2)", wheel.count(2), number);
            Check.due("count(9)", wheel.count(9), Integer.toString(number, 4).length());
        } else {
            Check.dueThrow("setProgram(" + number + ")", wheel, Check.ARGUMENT, () -> wheel.setProgram(number));
        }
        return isProgram;
    }

    private static void promise7Restart() {
        FlashRatchet wheel = new FlashRatchet();
        wheel.setTable(0, 0, 0, 10);
        wheel.setTable(0, 1, 0, 10);
        wheel.setTable(0, 2, 0, 10);
        wheel.setProgram(5);
        wheel.run(3);
        dueCounts("before restart", wheel, 3, 0, 5, 1, 301, 3, 3, 7, 0, 2);
        Check.due("restart(2, 999)", wheel.restart(2, 999), 3);
        dueCounts("after restart", wheel, 3, 2, 5, 0, 999, 0, 0, 7, 0, 2);
        Check.due("table stays", wheel.table(0, 2), 10);
        Check.due("restart(0, 0)", wheel.restart(0, 0), 0);
        wheel.run(1);
        Check.dueThrow("position 3", wheel, Check.INDEX, () -> wheel.restart(3, 0));
        Check.dueThrow("position -1", wheel, Check.INDEX, () -> wheel.restart(-1, 0));
        Check.dueThrow("position before seed", wheel, Check.INDEX, () -> wheel.restart(3, 1000));
        Check.dueThrow("seed 1000", wheel, Check.ARGUMENT, () -> wheel.restart(0, 1000));
        Check.dueThrow("seed -1", wheel, Check.ARGUMENT, () -> wheel.restart(0, -1));
    }

    private static void promise8Run() {
        FlashRatchet wheel = new FlashRatchet();
        // From seed 0 the draws are 1, 5, 3, 6, 1, ...: the seeds are 187, 554, 301, 628, 735, ...
        wheel.setTable(0, 0, 2, 5);
        wheel.setTable(0, 1, 0, 4);
        wheel.setTable(0, 2, 1, 4);
        Check.due("draw 1 is below back 2", wheel.run(1), -1);
        dueCounts("after 1 tick", wheel, 3, 2, 1, 0, 187, -1, 1, 7, 0, 1);
        Check.due("draw 5 is below 10 - 4", wheel.run(1), -1);
        wheel.setTable(0, 2, 1, 7);
        Check.due("draw 3 is 10 - 7", wheel.run(1), 0);
        dueCounts("forward from 2 is 0", wheel, 3, 0, 1, 0, 301, 0, 3, 7, 0, 1);
        wheel.setTable(0, 0, 6, 3);
        Check.due("draw 6 is not below back 6", wheel.run(1), 0);
        dueCounts("after 4 ticks", wheel, 3, 0, 1, 0, 628, 0, 4, 7, 0, 1);
        for (int wrong : new int[] {0, 501, -1, Integer.MIN_VALUE, Integer.MAX_VALUE}) {
            Check.dueThrow("run(" + wrong + ")", wheel, Check.ARGUMENT, () -> wheel.run(wrong));
        }
        wheel.begin(2);
        wheel.setTable(0, 0, 10, 0);
        wheel.setTable(0, 1, 10, 0);
        Check.due("500 moves back on 2 positions", wheel.run(500), -500);
        dueCounts("after 500 ticks", wheel, 2, 0, 1, 0, 500, -500, 500, 7, 0, 1);
    }

    private static void promise8RunWithPawlsAndGears() {
        FlashRatchet wheel = new FlashRatchet();
        wheel.begin(4);
        for (int position = 0; position < 4; position++) {
            wheel.setTable(0, position, 10, 0);
            wheel.setTable(1, position, 0, 10);
        }
        wheel.pawl(3, true);
        Check.due("the pawl at 3 holds the wheel", wheel.run(5), -1);
        Check.due("it stands at 3", wheel.count(1), 3);
        wheel.setProgram(2);
        Check.due("the pawl does not stop it forward", wheel.run(1), 0);
        Check.due("it stands at 0", wheel.count(1), 0);
        wheel.setProgram(9);
        wheel.gear(0, false);
        Check.due("B moves, A is out", wheel.run(5), 3);
        Check.due("the index goes on", wheel.count(3), 1);
        Check.due("the ticks go on", wheel.count(6), 11);
        wheel.gear(0, true);
        wheel.gear(1, false);
        wheel.pawl(3, false);
        Check.due("A moves, B is out", wheel.run(4), 1);
    }
}
