import java.math.BigInteger;
import java.util.ArrayList;
import java.util.HashMap;
import java.util.List;
import java.util.Map;
import java.util.regex.Matcher;
import java.util.regex.Pattern;

/**
 * The document told a second time, by other ways than the class goes: chances from the end backwards, shares by
 * elimination over fractions, classes by trying all sets, texts by a regular expression. It looks at no argument:
 * the test that asks it knows which calls are refused.
 */
final class Model {
    int positions = 3;
    int position;
    int seed;
    int index;
    int gain;
    int ticks;
    List<Integer> program = List.of(0);
    int[][][] tables = new int[3][4][2];
    boolean[] in = {true, true, true};
    boolean[] pawls = new boolean[4];
    StringBuilder buffer = new StringBuilder();

    /** A fraction of big numbers, in lowest terms. */
    record Ratio(BigInteger above, BigInteger below) {
        static final Ratio ZERO = of(0, 1);
        static final Ratio ONE = of(1, 1);

        static Ratio of(long above, long below) {
            return make(BigInteger.valueOf(above), BigInteger.valueOf(below));
        }

        static Ratio make(BigInteger above, BigInteger below) {
            BigInteger divisor = above.gcd(below);
            if (below.signum() < 0) {
                divisor = divisor.negate();
            }
            return new Ratio(above.divide(divisor), below.divide(divisor));
        }

        Ratio plus(Ratio other) {
            return make(above.multiply(other.below).add(other.above.multiply(below)), below.multiply(other.below));
        }

        Ratio minus(Ratio other) {
            return plus(new Ratio(other.above.negate(), other.below));
        }

        Ratio times(Ratio other) {
            return make(above.multiply(other.above), below.multiply(other.below));
        }

        Ratio over(Ratio other) {
            return make(above.multiply(other.below), below.multiply(other.above));
        }

        int order(Ratio other) {
            return above.multiply(other.below).compareTo(other.above.multiply(below));
        }

        long part(int what) {
            return (what == 0 ? above : below).longValueExact();
        }
    }

    static boolean isProgram(int number) {
        return number > 0 && Integer.toString(number, 4).matches("[123]{1,4}");
    }

    static List<Integer> leversOf(int number) {
        List<Integer> levers = new ArrayList<>();
        for (char digit : Integer.toString(number, 4).toCharArray()) {
            levers.add(digit - '1');
        }
        return levers;
    }

    static int numberOf(List<Integer> levers) {
        int number = 0;
        for (int lever : levers) {
            number = 4 * number + lever + 1;
        }
        return number;
    }

    // ---- what is set

    int begin(int newPositions) {
        int previous = positions;
        StringBuilder kept = buffer;
        Model fresh = new Model();
        positions = newPositions;
        tables = fresh.tables;
        in = fresh.in;
        pawls = fresh.pawls;
        program = fresh.program;
        position = seed = index = gain = ticks = 0;
        buffer = kept;
        return previous;
    }

    int setTable(int lever, int at, int back, int forward) {
        int previous = table(lever, at);
        tables[lever][at] = new int[] {back, forward};
        return previous;
    }

    int gear(int lever, boolean isIn) {
        in[lever] = isIn;
        return bits(in, 3).replace("0", "").length();
    }

    int pawl(int at, boolean isSet) {
        pawls[at] = isSet;
        return bits(pawls, 4).replace("0", "").length();
    }

    private static String bits(boolean[] flags, int size) {
        StringBuilder text = new StringBuilder();
        for (int place = size - 1; place >= 0; place--) {
            text.append(flags[place] ? '1' : '0');
        }
        return text.toString();
    }

    int setProgram(int number) {
        int previous = numberOf(program);
        program = leversOf(number);
        index = 0;
        return previous;
    }

    int restart(int at, int newSeed) {
        int previous = gain;
        position = at;
        seed = newSeed;
        index = gain = ticks = 0;
        return previous;
    }

    // ---- moves

    private int chanceOf(int lever, int at, int move) {
        int back = in[lever] && !pawls[at] ? tables[lever][at][0] : 0;
        int forward = in[lever] ? tables[lever][at][1] : 0;
        return move < 0 ? back : move > 0 ? forward : 10 - back - forward;
    }

    private int moved(int at, int move) {
        return Math.floorMod(at + move, positions);
    }

    private void tick() {
        seed = (141 * seed + 187) % 1000;
        int draw = seed / 100;
        int lever = program.get(index);
        int move = draw < tables[lever][position][0] ? -1 : draw >= 10 - tables[lever][position][1] ? 1 : 0;
        if (!in[lever] || move == -1 && pawls[position]) {
            move = 0;
        }
        position = moved(position, move);
        gain += move;
        index = (index + 1) % program.size();
        ticks++;
    }

    int run(int count) {
        for (int tick = 0; tick < count; tick++) {
            tick();
        }
        return gain;
    }

    // ---- texts

    private Pattern textPattern() {
        StringBuilder pair = new StringBuilder("(?:");
        for (int back = 0; back <= 9; back++) {
            pair.append(back == 0 ? "" : "|").append(back).append("[0-").append(Math.min(9, 10 - back)).append("]");
        }
        pair.append(")");
        String item = "(?:[ABC]:" + pair + "(?:," + pair + "){" + (positions - 1) + "}|P:[ABC]{1,4})";
        return Pattern.compile(item + "(?:;" + item + ")*");
    }

    int firstError() {
        Pattern pattern = textPattern();
        for (int length = 1; length <= buffer.length(); length++) {
            Matcher matcher = pattern.matcher(buffer.substring(0, length));
            if (!matcher.matches() && !matcher.hitEnd()) {
                return length - 1;
            }
        }
        return buffer.length();
    }

    boolean isText() {
        return textPattern().matcher(buffer).matches();
    }

    int load() {
        String[] items = buffer.toString().split(";");
        for (String item : items) {
            String[] parts = item.substring(2).split(",");
            if (item.charAt(0) == 'P') {
                List<Integer> levers = new ArrayList<>();
                for (char letter : parts[0].toCharArray()) {
                    levers.add(letter - 'A');
                }
                program = levers;
                index = 0;
            } else {
                for (int at = 0; at < positions; at++) {
                    setTable(item.charAt(0) - 'A', at, parts[at].charAt(0) - '0', parts[at].charAt(1) - '0');
                }
            }
        }
        buffer.setLength(0);
        return items.length;
    }

    int load(String text) {
        buffer = new StringBuilder(text);
        return load();
    }

    // ---- runs

    int cycle(int what) {
        Model walk = new Model();
        walk.positions = positions;
        walk.tables = tables;
        walk.in = in;
        walk.pawls = pawls;
        walk.program = program;
        walk.position = position;
        walk.index = index;
        walk.seed = seed;
        Map<List<Integer>, int[]> seen = new HashMap<>();
        while (true) {
            int[] first = seen.putIfAbsent(List.of(walk.position, walk.index, walk.seed), new int[] {walk.ticks, walk.gain});
            if (first != null) {
                return what == 0 ? first[0] : what == 1 ? walk.ticks - first[0] : walk.gain - first[1];
            }
            walk.tick();
        }
    }

    // ---- exact chances

    /** What a chance is asked of: where the wheel is in the end, and what it has gained. */
    private interface End {
        boolean counts(int at, int gained);
    }

    private long chanceOfEnd(int left, List<Integer> state, int[] bounds, End end, Map<List<Integer>, Long> known) {
        int at = state.get(0);
        int gained = state.get(1);
        int lever = state.get(2);
        if (left == 0 || gained == bounds[0] || gained == bounds[1]) {
            long all = 1;
            for (int tick = 0; tick < left; tick++) {
                all *= 10;
            }
            return end.counts(at, gained) ? all : 0;
        }
        List<Integer> key = List.of(left, at, gained, lever);
        Long old = known.get(key);
        if (old != null) {
            return old;
        }
        long sum = 0;
        for (int move = -1; move <= 1; move++) {
            List<Integer> next = List.of(moved(at, move), gained + move, (lever + 1) % program.size());
            sum += chanceOf(program.get(lever), at, move) * chanceOfEnd(left - 1, next, bounds, end, known);
        }
        known.put(key, sum);
        return sum;
    }

    private long chanceOfEnd(int count, int low, int high, End end) {
        return chanceOfEnd(count, List.of(position, 0, index), new int[] {low, high}, end, new HashMap<>());
    }

    long chance(int count, int where) {
        return chanceOfEnd(count, -99, 99, (at, gained) -> at == where);
    }

    long chanceOfGain(int count, int least) {
        return chanceOfEnd(count, -99, 99, (at, gained) -> gained >= least);
    }

    long game(int money, int goal, int count, int what) {
        return chanceOfEnd(count, -money, goal, (at, gained) -> (gained == -money ? 0 : gained == goal ? 1 : 2) == what);
    }

    // ---- exact averages

    /** The chances of the ends of a round, and its mean gain as the last number. */
    private Ratio[] roundFrom(List<Integer> levers, int from) {
        Ratio[] result = new Ratio[positions + 1];
        for (int place = 0; place <= positions; place++) {
            result[place] = Ratio.ZERO;
        }
        addPaths(levers, 0, from, 0, Ratio.ONE, result);
        return result;
    }

    private void addPaths(List<Integer> levers, int done, int at, int gained, Ratio chance, Ratio[] result) {
        if (done == levers.size()) {
            result[at] = result[at].plus(chance);
            result[positions] = result[positions].plus(chance.times(Ratio.of(gained, 1)));
            return;
        }
        for (int move = -1; move <= 1; move++) {
            int tenths = chanceOf(levers.get(done), at, move);
            if (tenths > 0) {
                addPaths(levers, done + 1, moved(at, move), gained + move, chance.times(Ratio.of(tenths, 10)), result);
            }
        }
    }

    private Ratio[][] rounds(int number) {
        Ratio[][] rows = new Ratio[positions][];
        for (int from = 0; from < positions; from++) {
            rows[from] = roundFrom(leversOf(number), from);
        }
        return rows;
    }

    private int reachedFrom(Ratio[][] rows, int from, int before) {
        int mask = before;
        for (int to = 0; to < positions; to++) {
            if (rows[from][to].above().signum() > 0 && (mask >> to & 1) == 0) {
                mask = reachedFrom(rows, to, mask | 1 << to);
            }
        }
        return mask;
    }

    private int classesOf(Ratio[][] rows) {
        int count = 0;
        for (int set = 1; set < 1 << positions; set++) {
            boolean isClass = true;
            for (int at = 0; at < positions; at++) {
                if ((set >> at & 1) != 0 && reachedFrom(rows, at, 0) != set) {
                    isClass = false;
                }
            }
            count += isClass ? 1 : 0;
        }
        return count;
    }

    int classes(int number) {
        return classesOf(rounds(number));
    }

    /** Solves for the shares: the equations of all positions but the last, and that their sum is 1. */
    private Ratio[] sharesOf(Ratio[][] rows) {
        Ratio[][] lines = new Ratio[positions][positions + 1];
        for (int line = 0; line < positions; line++) {
            for (int from = 0; from < positions; from++) {
                Ratio stays = line == from ? Ratio.ONE : Ratio.ZERO;
                lines[line][from] = line == positions - 1 ? Ratio.ONE : rows[from][line].minus(stays);
            }
            lines[line][positions] = line == positions - 1 ? Ratio.ONE : Ratio.ZERO;
        }
        for (int column = 0; column < positions; column++) {
            int pivot = column;
            while (lines[pivot][column].above().signum() == 0) {
                pivot++;
            }
            Ratio[] taken = lines[pivot];
            lines[pivot] = lines[column];
            lines[column] = taken;
            for (int line = 0; line < positions; line++) {
                if (line != column) {
                    Ratio factor = lines[line][column].over(taken[column]);
                    for (int place = 0; place <= positions; place++) {
                        lines[line][place] = lines[line][place].minus(factor.times(taken[place]));
                    }
                }
            }
        }
        Ratio[] shares = new Ratio[positions];
        for (int at = 0; at < positions; at++) {
            shares[at] = lines[at][positions].over(lines[at][at]);
        }
        return shares;
    }

    /** Null if there is no average. */
    private Ratio averageOf(int number) {
        Ratio[][] rows = rounds(number);
        if (classesOf(rows) != 1) {
            return null;
        }
        Ratio[] shares = sharesOf(rows);
        Ratio sum = Ratio.ZERO;
        for (int at = 0; at < positions; at++) {
            sum = sum.plus(shares[at].times(rows[at][positions]));
        }
        return sum.over(Ratio.of(leversOf(number).size(), 1));
    }

    boolean hasAverage(int number) {
        return averageOf(number) != null;
    }

    long average(int number, int what) {
        Ratio average = averageOf(number);
        return average == null ? 0 : average.part(what);
    }

    long share(int number, int at, int what) {
        Ratio[][] rows = rounds(number);
        return classesOf(rows) != 1 ? 0 : sharesOf(rows)[at].part(what);
    }

    int compare(int one, int other) {
        return averageOf(one).order(averageOf(other));
    }

    private boolean isIn(int number) {
        for (int lever : leversOf(number)) {
            if (!in[lever]) {
                return false;
            }
        }
        return true;
    }

    /** Goes downwards through the numbers, so that ties fall to shorter programs and lower numbers by the rule itself. */
    long best(int most, int what) {
        int found = -1;
        Ratio greatest = null;
        for (int number = 255; number > 0; number--) {
            if (!isProgram(number) || leversOf(number).size() > most || !isIn(number)) {
                continue;
            }
            Ratio average = averageOf(number);
            if (average != null && (greatest == null || isBetter(number, average, found, greatest))) {
                found = number;
                greatest = average;
            }
        }
        return found == -1 ? -1 : what == 0 ? found : greatest.part(what - 1);
    }

    private static boolean isBetter(int number, Ratio average, int found, Ratio greatest) {
        if (average.order(greatest) != 0) {
            return average.order(greatest) > 0;
        }
        int length = leversOf(number).size();
        int foundLength = leversOf(found).size();
        return length != foundLength ? length < foundLength : number < found;
    }

    int paradox() {
        boolean isAny = false;
        for (int lever = 0; lever < 3; lever++) {
            if (in[lever]) {
                isAny = true;
                Ratio average = averageOf(lever + 1);
                if (average == null || average.above().signum() >= 0) {
                    return 0;
                }
            }
        }
        return isAny && best(3, 0) != -1 && best(3, 1) > 0 ? 1 : 0;
    }

    // ---- what there is

    int count(int what) {
        return switch (what) {
            case 0 -> positions;
            case 1 -> position;
            case 2 -> numberOf(program);
            case 3 -> index;
            case 4 -> seed;
            case 5 -> gain;
            case 6 -> ticks;
            case 7 -> Integer.parseInt(bits(in, 3), 2);
            case 8 -> Integer.parseInt(bits(pawls, 4), 2);
            default -> program.size();
        };
    }

    int table(int lever, int at) {
        return 100 * tables[lever][at][0] + tables[lever][at][1];
    }

    double meanGain() {
        return ticks == 0 ? 0.0 : (double) gain / ticks;
    }
}
