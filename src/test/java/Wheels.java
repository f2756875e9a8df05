import java.util.ArrayList;
import java.util.List;

/** What several tests need to set out with. */
final class Wheels {
    private Wheels() {
    }

    static FlashRatchet of(int positions, String text) {
        FlashRatchet wheel = new FlashRatchet();
        wheel.begin(positions);
        Check.load(wheel, text);
        return wheel;
    }

    /** The numbers of A, B and C, each as 100 * back + forward; unlike those of a text they go up to 10. */
    static FlashRatchet ofNumbers(int positions, int... numbers) {
        FlashRatchet wheel = new FlashRatchet();
        wheel.begin(positions);
        for (int place = 0; place < numbers.length; place++) {
            wheel.setTable(place / positions, place % positions, numbers[place] / 100, numbers[place] % 100);
        }
        return wheel;
    }

    /** A wheel on which the lever has the same numbers at each position. */
    static FlashRatchet even(int positions, int lever, int back, int forward) {
        FlashRatchet wheel = new FlashRatchet();
        wheel.begin(positions);
        setAll(wheel, lever, back, forward);
        return wheel;
    }

    static void setAll(FlashRatchet wheel, int lever, int back, int forward) {
        for (int position = 0; position < wheel.count(0); position++) {
            wheel.setTable(lever, position, back, forward);
        }
    }

    /** On 4 positions: A goes forward, B back, C stays, all of them with certainty. */
    static FlashRatchet forwardBackStay() {
        FlashRatchet wheel = even(4, 0, 0, 10);
        setAll(wheel, 1, 10, 0);
        return wheel;
    }

    /** A and B lose, ABB wins; C is geared out. */
    static FlashRatchet paradox() {
        FlashRatchet wheel = of(3, "A:54,54,54;B:70,15,15");
        wheel.gear(2, false);
        return wheel;
    }

    /** The seed from which one tick leads to this seed. */
    static int seedBefore(int seed) {
        for (int before = 0; before < 1000; before++) {
            if ((141 * before + 187) % 1000 == seed) {
                return before;
            }
        }
        throw new IllegalStateException("no seed leads to " + seed);
    }

    static int power(int base, int exponent) {
        int product = 1;
        for (int factor = 0; factor < exponent; factor++) {
            product *= base;
        }
        return product;
    }

    static long tenToThe(int exponent) {
        long product = 1;
        for (int factor = 0; factor < exponent; factor++) {
            product *= 10;
        }
        return product;
    }

    /** All programs of at least one and at most four levers, as texts, the shorter ones first. */
    static List<String> programs() {
        List<String> programs = new ArrayList<>(List.of("A", "B", "C"));
        for (int place = 0; programs.get(place).length() < 4; place++) {
            for (char letter = 'A'; letter <= 'C'; letter++) {
                programs.add(programs.get(place) + letter);
            }
        }
        return programs;
    }

    static int numberOf(String program) {
        int number = 0;
        for (char letter : program.toCharArray()) {
            number = 4 * number + (letter - 'A') + 1;
        }
        return number;
    }

    static boolean isProgram(int number) {
        return Integer.toString(number, 4).matches("[123]{1,4}");
    }

    /** Numbers beside the range: right beside it, further off, and as far off as can be. */
    static int[] outside(int least, int most) {
        return new int[] {least - 1, most + 1, least - 32, most + 32, Integer.MIN_VALUE, Integer.MAX_VALUE};
    }

    /** With a digit 0 to the base 4, or with none, or with five. */
    static int[] noPrograms() {
        return new int[] {0, 4, 8, 12, 16, 19, 20, 24, 48, 60, 64, 67, 68, 80, 84, 128, 192, 240, 252, 256, 257, 340, 341,
            1023, 1365, -1, -2, -5, -255, 65537, Integer.MIN_VALUE, Integer.MIN_VALUE + 1, Integer.MAX_VALUE};
    }

    /** A wheel with tables, pawls and gears drawn by a fixed rule; many numbers are 0, so that there are several classes. */
    static FlashRatchet drawn(int number) {
        FlashRatchet wheel = new FlashRatchet();
        int positions = 2 + number % 3;
        wheel.begin(positions);
        long dice = 31L * number + 7;
        for (int lever = 0; lever < 3; lever++) {
            for (int position = 0; position < positions; position++) {
                dice = roll(dice);
                int back = below(dice, 3) == 0 ? 0 : below(dice >>> 8, 11);
                int forward = below(dice >>> 4, 3) == 0 ? 0 : below(dice >>> 16, 11 - back);
                wheel.setTable(lever, position, back, forward);
            }
            dice = roll(dice);
            wheel.gear(lever, below(dice, 6) > 0);
        }
        dice = roll(dice);
        wheel.pawl(below(dice, positions), below(dice >>> 8, 2) == 0);
        return wheel;
    }

    /** A wheel with tables drawn by a fixed rule, hardly a number of them 0: a paradox comes once in some hundred wheels. */
    static FlashRatchet drawnFull(int number) {
        FlashRatchet wheel = new FlashRatchet();
        int positions = 2 + number % 3;
        wheel.begin(positions);
        long dice = 97L * number + 11;
        for (int lever = 0; lever < 3; lever++) {
            for (int position = 0; position < positions; position++) {
                dice = roll(dice);
                int back = below(dice, 11);
                wheel.setTable(lever, position, back, below(dice >>> 16, 11 - back));
            }
        }
        wheel.gear(number % 5 % 3, number % 5 > 2);
        return wheel;
    }

    private static long roll(long dice) {
        return dice * 6364136223846793005L + 1442695040888963407L;
    }

    private static int below(long dice, int bound) {
        return (int) ((dice >>> 33) % bound);
    }
}
