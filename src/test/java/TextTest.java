/** Promises 9 to 12: the buffer, its first error, and loading it. */
public final class TextTest {
    private TextTest() {
    }

    public static void main(String[] arguments) {
        promise9Append();
        promise10ClearBuffer();
        promise11FirstError();
        promise11OtherWheels();
        promise12Load();
        promise12Refusals();
        Check.end();
    }

    private static void promise9Append() {
        FlashRatchet wheel = new FlashRatchet();
        Check.due("append(33)", wheel.append(33), 1);
        Check.due("append(126)", wheel.append(126), 2);
        for (int wrong : new int[] {32, 127, 0, -1, Integer.MIN_VALUE, Integer.MAX_VALUE}) {
            Check.dueThrow("append(" + wrong + ")", wheel, Check.ARGUMENT, () -> wheel.append(wrong));
        }
        for (int length = 3; length <= 60; length++) {
            Check.due("append to " + length, wheel.append('A'), length);
        }
        Check.dueThrow("append to 61", wheel, Check.STATE, () -> wheel.append('A'));
        Check.dueThrow("argument before state", wheel, Check.ARGUMENT, () -> wheel.append(127));
    }

    private static void promise10ClearBuffer() {
        FlashRatchet wheel = new FlashRatchet();
        Check.due("clearBuffer()", wheel.clearBuffer(), 0);
        Check.append(wheel, "A:!");
        Check.due("clearBuffer() of 3", wheel.clearBuffer(), 3);
        Check.due("clearBuffer() again", wheel.clearBuffer(), 0);
        Check.due("append after clearing", wheel.append('P'), 1);
        Check.due("firstError after clearing", wheel.firstError(), 1);
    }

    private static void dueError(FlashRatchet wheel, String text, int place) {
        wheel.clearBuffer();
        Check.append(wheel, text);
        Check.due("firstError() of " + text, wheel.firstError(), place);
        Check.due("the buffer of " + text + " stays", wheel.clearBuffer(), text.length());
    }

    private static void promise11FirstError() {
        String[] beginnings = {"", "A", "B:", "C:0", "A:91", "A:00,", "A:55,19,82", "A:55,19,82;", "P", "P:", "P:A",
            "P:CCCC", "P:A;P:B;C:00,00,00;A", "A:90,09,00"};
        for (String beginning : beginnings) {
            dueError(new FlashRatchet(), beginning, beginning.length());
        }
        String[] faulty = {"D", "a", ":", ";", "@", "p", "1", "AA", "A;", "PA", "P::", "A:A", "A:/", "A:0:", "A:;", "A:92",
            "A:56", "A:00;", "A:000", "A:00,,", "A:00,00,00,", "A:00,00,000", "A:00,00,00;;", "A:00,00,00;D", "P:;",
            "P:D", "P:P", "P:1", "P:A,", "P:A:", "P:CCCCC", "P:CCCCA", "P:CCCC,", "P:A;;", "A:-", "A:00,00;"};
        for (String text : faulty) {
            FlashRatchet wheel = new FlashRatchet();
            dueError(wheel, text, text.length() - 1);
            dueError(wheel, text + "A", text.length() - 1);
            if (text.length() < 50) {
                dueError(wheel, text + ";P:A", text.length() - 1);
            }
        }
        String longText = "P:ABCA;A:19,28,37;P:B;B:46,55,64;P:C;C:73,82,91;P:A;A:00,00,0";
        dueError(new FlashRatchet(), longText.substring(0, 60), 60);
        dueError(new FlashRatchet(), longText.substring(0, 59) + "x", 59);
    }

    private static void promise11OtherWheels() {
        FlashRatchet wheel = new FlashRatchet();
        wheel.begin(2);
        dueError(wheel, "A:00,00", 7);
        dueError(wheel, "A:00,00;", 8);
        dueError(wheel, "A:00,00,", 7);
        wheel.begin(4);
        dueError(wheel, "A:00,00,00,00;", 14);
        dueError(wheel, "A:00,00,00;", 10);
        dueError(wheel, "A:00,00,00,00,", 13);
        Check.append(wheel, "A:00,00,00,00");
        Check.due("on 4 positions", wheel.firstError(), 13);
        wheel.begin(3);
        Check.due("the same on 3 positions", wheel.firstError(), 10);
    }

    private static void promise12Load() {
        FlashRatchet wheel = new FlashRatchet();
        wheel.setTable(1, 1, 1, 1);
        wheel.setProgram(27);
        wheel.restart(1, 5);
        wheel.run(2);
        int position = wheel.count(1);
        Check.append(wheel, "A:19,28,37");
        Check.due("load() of a lever", wheel.load(), 1);
        Check.due("the program stays", wheel.count(2), 27);
        Check.due("the index stays", wheel.count(3), 2);
        Check.due("table(0, 0)", wheel.table(0, 0), 109);
        Check.due("table(0, 1)", wheel.table(0, 1), 208);
        Check.due("table(0, 2)", wheel.table(0, 2), 307);
        Check.due("table(1, 1)", wheel.table(1, 1), 101);
        Check.due("the buffer is cleared", wheel.clearBuffer(), 0);
        Check.append(wheel, "P:C;C:01,10,00;P:BCA;C:90,00,55");
        Check.due("load() of 4 items", wheel.load(), 4);
        Check.due("the last program counts", wheel.count(2), (2 * 4 + 3) * 4 + 1);
        Check.due("the index is 0", wheel.count(3), 0);
        Check.due("table(2, 0)", wheel.table(2, 0), 900);
        Check.due("table(2, 1)", wheel.table(2, 1), 0);
        Check.due("table(2, 2)", wheel.table(2, 2), 505);
        Check.due("the position stays", wheel.count(1), position);
        Check.due("the ticks stay", wheel.count(6), 2);
        Check.append(wheel, "P:A;P:A;P:A;P:A;P:A;P:A;P:A;P:A;P:A;P:A;P:A;P:A;P:A;P:A;P:CB");
        Check.due("load() of 60 characters", wheel.load(), 15);
        Check.due("its last program", wheel.count(2), 14);
        wheel.gear(1, false);
        wheel.begin(4);
        Check.append(wheel, "B:11,22,33,44;P:ABCC");
        Check.due("load() for 4 positions", wheel.load(), 2);
        Check.due("table(1, 3)", wheel.table(1, 3), 404);
        Check.due("a program of 4", wheel.count(2), 111);
    }

    private static void promise12Refusals() {
        FlashRatchet wheel = new FlashRatchet();
        wheel.setTable(0, 0, 2, 3);
        wheel.setProgram(30);
        wheel.run(1);
        String[] incomplete = {"", "A", "A:", "A:0", "A:00", "A:00,", "A:00,00", "A:00,00,0", "A:00,00,00;", "P", "P:", "P:A;",
            "P:A;A:11,11,11;B", "P:A;A:11,11,11;x", "A:11,11,11,", "P:AAAAA", "P:A;A:11,11,56", "A:11,11,11P"};
        for (String text : incomplete) {
            wheel.clearBuffer();
            Check.append(wheel, text);
            Check.dueThrow("load() of " + text, wheel, Check.ARGUMENT, wheel::load);
            Check.due("the buffer of " + text + " stays", wheel.clearBuffer(), text.length());
        }
        wheel.begin(4);
        Check.append(wheel, "A:00,00,00");
        Check.dueThrow("load() of 3 of 4", wheel, Check.ARGUMENT, wheel::load);
        wheel.begin(2);
        Check.dueThrow("load() of 3 of 2", wheel, Check.ARGUMENT, wheel::load);
        wheel.begin(3);
        Check.due("load() of 3 of 3", wheel.load(), 1);
    }
}
