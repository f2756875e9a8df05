/** A ratchet wheel that is driven by levers, with its runs, exact chances and exact averages. */
public final class FlashRatchet {
    /** There is nothing to return. */
    public static final int NONE = -1;

    private static final int LEVERS = 3;
    private static final int FEWEST_POSITIONS = 2;
    private static final int FIRST_POSITIONS = 3;
    private static final int MOST_POSITIONS = 4;
    private static final int TENTHS = 10;
    private static final int SEEDS = 1000;
    private static final int SEEDS_OF_DRAW = 100;
    private static final int FIRST_PROGRAM = 1;
    private static final int PROGRAM_NUMBERS = 256;
    private static final int LONGEST_BEST = 3;
    private static final int MOST_TICKS_AT_ONCE = 500;
    private static final int MOST_TICKS = 1000000;
    private static final int MOST_TICKS_OF_CHANCE = 15;
    private static final int MOST_STAKE = 15;
    /** No gain within the ticks of a chance gets as far as this. */
    private static final int OUT_OF_REACH = 16;
    private static final int LOWEST_CODE = 33;
    private static final int HIGHEST_CODE = 126;
    private static final int LONGEST_TEXT = 60;
    private static final int COUNTS = 10;
    private static final long FIRST_HASH = 2029L;
    private static final int TICKS_OF_DIGEST = 6;

    private final Wheel wheel;
    private final Walk present;
    private int program;
    private final Row buffer;
    private int bufferLength;

    // Only room to work in, made once: what stands here never outlasts a call.
    private final Reader reader;
    private final Cycle loop;
    private final Spread spread;
    private final Rounds rounds;
    private final Fraction averageOfOne;
    private final Search search;

    public FlashRatchet() {
        wheel = new Wheel();
        present = new Walk();
        program = FIRST_PROGRAM;
        buffer = new Row(LONGEST_TEXT);
        bufferLength = 0;
        reader = new Reader();
        loop = new Cycle();
        spread = new Spread();
        rounds = new Rounds();
        averageOfOne = new Fraction();
        search = new Search();
    }

    // ---- the wheel

    public int begin(int positions) throws IllegalArgumentException {
        if (!isWithin(positions, FEWEST_POSITIONS, MOST_POSITIONS)) {
            throw new IllegalArgumentException("positions is not 2 to 4");
        }
        int previous = wheel.positions;
        wheel.renew(positions);
        present.rewind(0, 0);
        program = FIRST_PROGRAM;
        return previous;
    }

    public int setTable(int lever, int position, int back, int forward)
            throws IndexOutOfBoundsException, IllegalArgumentException {
        if (!isLever(lever) || !wheel.hasPosition(position)) {
            throw new IndexOutOfBoundsException("no such lever or position");
        }
        if (!isWithin(back, 0, TENTHS) || !isWithin(forward, 0, TENTHS) || back + forward > TENTHS) {
            throw new IllegalArgumentException("back or forward is out of range");
        }
        int previous = wheel.numbers(lever, position);
        wheel.setNumbers(lever, position, back, forward);
        return previous;
    }

    public int gear(int lever, boolean in) throws IndexOutOfBoundsException {
        if (!isLever(lever)) {
            throw new IndexOutOfBoundsException("no such lever");
        }
        wheel.leversIn = withBit(wheel.leversIn, lever, in);
        return Integer.bitCount(wheel.leversIn);
    }

    public int pawl(int position, boolean set) throws IndexOutOfBoundsException {
        if (!wheel.hasPosition(position)) {
            throw new IndexOutOfBoundsException("no such position");
        }
        wheel.pawlsSet = withBit(wheel.pawlsSet, position, set);
        return Integer.bitCount(wheel.pawlsSet);
    }

    public int setProgram(int program) throws IllegalArgumentException {
        if (!isProgram(program)) {
            throw new IllegalArgumentException("not the number of a program");
        }
        int previous = this.program;
        takeProgram(program);
        return previous;
    }

    public int restart(int position, int seed) throws IndexOutOfBoundsException, IllegalArgumentException {
        if (!wheel.hasPosition(position)) {
            throw new IndexOutOfBoundsException("no such position");
        }
        if (!isWithin(seed, 0, SEEDS - 1)) {
            throw new IllegalArgumentException("seed is out of range");
        }
        int previous = present.gain;
        present.rewind(position, seed);
        return previous;
    }

    public int run(int ticks) throws IllegalArgumentException, IllegalStateException {
        if (!isWithin(ticks, 1, MOST_TICKS_AT_ONCE)) {
            throw new IllegalArgumentException("ticks is not 1 to 500");
        }
        if (present.ticks + ticks > MOST_TICKS) {
            throw new IllegalStateException("more than 1000000 ticks");
        }
        for (int tick = 0; tick < ticks; tick++) {
            present.tick(wheel, program);
        }
        return present.gain;
    }

    // ---- texts

    public int append(int code) throws IllegalArgumentException, IllegalStateException {
        if (!isWithin(code, LOWEST_CODE, HIGHEST_CODE)) {
            throw new IllegalArgumentException("code is not 33 to 126");
        }
        if (bufferLength >= LONGEST_TEXT) {
            throw new IllegalStateException("the buffer is full");
        }
        buffer.set(bufferLength, code);
        bufferLength++;
        return bufferLength;
    }

    public int clearBuffer() {
        int previous = bufferLength;
        bufferLength = 0;
        return previous;
    }

    public int firstError() {
        reader.open(wheel.positions);
        for (int place = 0; place < bufferLength; place++) {
            if (!reader.take(codeAt(place))) {
                return place;
            }
        }
        return bufferLength;
    }

    public int load() throws IllegalArgumentException {
        if (!isCompleteText()) {
            throw new IllegalArgumentException("the buffer is not a complete text");
        }
        reader.open(wheel.positions);
        for (int place = 0; place < bufferLength; place++) {
            reader.take(codeAt(place));
            carryOut();
        }
        bufferLength = 0;
        return reader.items;
    }

    // ---- runs

    public int cycle(int what) throws IllegalArgumentException {
        if (!isWithin(what, 0, 2)) {
            throw new IllegalArgumentException("what is not 0 to 2");
        }
        loop.find(wheel, program, present);
        return loop.part(what);
    }

    // ---- exact chances

    public long chance(int ticks, int position) throws IllegalArgumentException, IndexOutOfBoundsException {
        if (!isWithin(ticks, 0, MOST_TICKS_OF_CHANCE)) {
            throw new IllegalArgumentException("ticks is not 0 to 15");
        }
        if (!wheel.hasPosition(position)) {
            throw new IndexOutOfBoundsException("no such position");
        }
        spreadFreely(ticks);
        return spread.ofPosition(position);
    }

    public long chanceOfGain(int ticks, int least) throws IllegalArgumentException {
        if (!isWithin(ticks, 0, MOST_TICKS_OF_CHANCE)) {
            throw new IllegalArgumentException("ticks is not 0 to 15");
        }
        spreadFreely(ticks);
        return spread.ofGain(least);
    }

    public long game(int money, int goal, int ticks, int what) throws IllegalArgumentException {
        if (!isWithin(money, 1, MOST_STAKE) || !isWithin(goal, 1, MOST_STAKE)
                || !isWithin(ticks, 0, MOST_TICKS_OF_CHANCE) || !isWithin(what, 0, 2)) {
            throw new IllegalArgumentException("an argument is out of range");
        }
        spread.limit(money, goal);
        spread.pass(wheel, program, present, ticks);
        return spread.ofOutcome(what);
    }

    // ---- exact averages

    public long average(int program, int what) throws IllegalArgumentException {
        if (!isProgram(program) || !isWithin(what, 0, 1)) {
            throw new IllegalArgumentException("not the number of a program, or what is not 0 or 1");
        }
        rounds.study(wheel, program);
        rounds.takeAverage();
        return rounds.result.part(what);
    }

    public long share(int program, int position, int what)
            throws IndexOutOfBoundsException, IllegalArgumentException {
        if (!wheel.hasPosition(position)) {
            throw new IndexOutOfBoundsException("no such position");
        }
        if (!isProgram(program) || !isWithin(what, 0, 1)) {
            throw new IllegalArgumentException("not the number of a program, or what is not 0 or 1");
        }
        rounds.study(wheel, program);
        rounds.takeShare(position);
        return rounds.result.part(what);
    }

    public int classes(int program) throws IllegalArgumentException {
        if (!isProgram(program)) {
            throw new IllegalArgumentException("not the number of a program");
        }
        rounds.study(wheel, program);
        return rounds.classCount;
    }

    public int compare(int one, int other) throws IllegalArgumentException, IllegalStateException {
        if (!isProgram(one) || !isProgram(other)) {
            throw new IllegalArgumentException("not the number of a program");
        }
        rounds.study(wheel, one);
        rounds.takeAverage();
        averageOfOne.copy(rounds.result);
        rounds.study(wheel, other);
        rounds.takeAverage();
        if (averageOfOne.isNone() || rounds.result.isNone()) {
            throw new IllegalStateException("a program has no average");
        }
        return averageOfOne.order(rounds.result);
    }

    public long best(int most, int what) throws IllegalArgumentException {
        if (!isWithin(most, 1, LONGEST_BEST) || !isWithin(what, 0, 2)) {
            throw new IllegalArgumentException("an argument is out of range");
        }
        search.find(wheel, rounds, most);
        return search.part(what);
    }

    public int paradox() {
        if (wheel.leversIn == 0) {
            return 0;
        }
        for (int lever = 0; lever < LEVERS; lever++) {
            if (wheel.isIn(lever) && !isLosing(lever + 1)) {
                return 0;
            }
        }
        search.find(wheel, rounds, LONGEST_BEST);
        return search.average.numerator > 0 ? 1 : 0;
    }

    // ---- what there is

    public int count(int what) throws IllegalArgumentException {
        if (!isWithin(what, 0, COUNTS - 1)) {
            throw new IllegalArgumentException("what is not 0 to 9");
        }
        return numberOf(what);
    }

    public int table(int lever, int position) throws IndexOutOfBoundsException {
        if (!isLever(lever) || !wheel.hasPosition(position)) {
            throw new IndexOutOfBoundsException("no such lever or position");
        }
        return wheel.numbers(lever, position);
    }

    public double meanGain() {
        return present.ticks > 0 ? (double) present.gain / present.ticks : 0.0;
    }

    public long digest() {
        long hash = hashCounts(FIRST_HASH);
        hash = hashTables(hash);
        hash = hashCycle(hash);
        hash = hashChances(hash);
        hash = hashAverages(hash);
        hash = hashBest(hash);
        hash = mix(hash, paradox());
        return hashBuffer(hash);
    }

    // ---- the parts of the calls

    private static boolean isWithin(int number, int least, int most) {
        return number >= least && number <= most;
    }

    private static boolean isLever(int lever) {
        return lever >= 0 && lever < LEVERS;
    }

    private static int withBit(int mask, int bit, boolean set) {
        return set ? mask | 1 << bit : mask & ~(1 << bit);
    }

    private static boolean hasBit(int mask, int bit) {
        return (mask >> bit & 1) != 0;
    }

    /** A program's levers are the digits, 1 to 3, of its number to the base 4. */
    private static boolean isProgram(int number) {
        if (number <= 0 || number >= PROGRAM_NUMBERS) {
            return false;
        }
        for (int index = 0; index < lengthOf(number); index++) {
            if ((number >> (2 * index) & 3) == 0) {
                return false;
            }
        }
        return true;
    }

    private static int lengthOf(int program) {
        if (program < 4) {
            return 1;
        }
        if (program < 16) {
            return 2;
        }
        return program < 64 ? 3 : 4;
    }

    private static int leverAt(int program, int index) {
        int below = lengthOf(program) - 1 - index;
        return (program >> (2 * below) & 3) - 1;
    }

    private static int indexAfter(int program, int index) {
        return index + 1 < lengthOf(program) ? index + 1 : 0;
    }

    private void takeProgram(int number) {
        program = number;
        present.index = 0;
    }

    private int codeAt(int place) {
        return (int) buffer.get(place);
    }

    private boolean isCompleteText() {
        return firstError() == bufferLength && reader.isAtEnd();
    }

    /** Does what the reader has just read to its end; a program is taken anew with each of its letters. */
    private void carryOut() {
        if (reader.hasPair()) {
            wheel.setNumbers(reader.lever, reader.pairs - 1, reader.back, reader.forward);
        }
        if (reader.hasProgram()) {
            takeProgram(reader.program);
        }
    }

    private void spreadFreely(int ticks) {
        spread.limit(OUT_OF_REACH, OUT_OF_REACH);
        spread.pass(wheel, program, present, ticks);
    }

    private boolean isLosing(int number) {
        rounds.study(wheel, number);
        rounds.takeAverage();
        return rounds.result.numerator < 0;
    }

    private int numberOf(int what) {
        switch (what) {
            case 0: return wheel.positions;
            case 1: return present.position;
            case 2: return program;
            case 3: return present.index;
            case 4: return present.seed;
            case 5: return present.gain;
            case 6: return present.ticks;
            case 7: return wheel.leversIn;
            case 8: return wheel.pawlsSet;
            default: return lengthOf(program);
        }
    }

    private static long mix(long hash, long value) {
        return 31 * hash + value;
    }

    private long hashCounts(long before) {
        long hash = before;
        for (int what = 0; what < COUNTS; what++) {
            hash = mix(hash, numberOf(what));
        }
        return hash;
    }

    private long hashTables(long before) {
        long hash = before;
        for (int lever = 0; lever < LEVERS; lever++) {
            for (int position = 0; position < wheel.positions; position++) {
                hash = mix(hash, wheel.numbers(lever, position));
            }
        }
        return hash;
    }

    private long hashCycle(long before) {
        loop.find(wheel, program, present);
        long hash = before;
        for (int what = 0; what <= 2; what++) {
            hash = mix(hash, loop.part(what));
        }
        return hash;
    }

    private long hashChances(long before) {
        spreadFreely(TICKS_OF_DIGEST);
        long hash = before;
        for (int position = 0; position < wheel.positions; position++) {
            hash = mix(hash, spread.ofPosition(position));
        }
        hash = mix(hash, spread.ofGain(1));
        spread.limit(2, 2);
        spread.pass(wheel, program, present, TICKS_OF_DIGEST);
        for (int what = 0; what <= 2; what++) {
            hash = mix(hash, spread.ofOutcome(what));
        }
        return hash;
    }

    private long hashAverages(long before) {
        rounds.study(wheel, program);
        long hash = mix(before, rounds.classCount);
        rounds.takeAverage();
        hash = hashFraction(hash, rounds.result);
        for (int position = 0; position < wheel.positions; position++) {
            rounds.takeShare(position);
            hash = hashFraction(hash, rounds.result);
        }
        return hash;
    }

    private static long hashFraction(long before, Fraction fraction) {
        return mix(mix(before, fraction.numerator), fraction.denominator);
    }

    private long hashBest(long before) {
        search.find(wheel, rounds, 2);
        long hash = before;
        for (int what = 0; what <= 2; what++) {
            hash = mix(hash, search.part(what));
        }
        return hash;
    }

    private long hashBuffer(long before) {
        long hash = mix(before, bufferLength);
        for (int place = 0; place < bufferLength; place++) {
            hash = mix(hash, codeAt(place));
        }
        return hash;
    }

    /** A row of numbers that looks at each index before it uses it. */
    private static final class Row {
        private final long[] cells;

        Row(int size) {
            cells = new long[size > 0 ? size : 0];
        }

        long get(int index) {
            return index >= 0 && index < cells.length ? cells[index] : 0L;
        }

        void set(int index, long value) {
            if (index >= 0 && index < cells.length) {
                cells[index] = value;
            }
        }

        void add(int index, long value) {
            if (index >= 0 && index < cells.length) {
                cells[index] += value;
            }
        }

        void copy(Row other) {
            for (int index = 0; index < cells.length; index++) {
                cells[index] = other.get(index);
            }
        }

        void clear() {
            for (int index = 0; index < cells.length; index++) {
                cells[index] = 0L;
            }
        }
    }

    /** What is set: the positions, the tables, the gears and the pawls. */
    private static final class Wheel {
        private final Row backs;
        private final Row forwards;
        private int positions;
        private int leversIn;
        private int pawlsSet;

        Wheel() {
            backs = new Row(LEVERS * MOST_POSITIONS);
            forwards = new Row(LEVERS * MOST_POSITIONS);
            positions = FIRST_POSITIONS;
            leversIn = (1 << LEVERS) - 1;
            pawlsSet = 0;
        }

        void renew(int newPositions) {
            backs.clear();
            forwards.clear();
            positions = newPositions;
            leversIn = (1 << LEVERS) - 1;
            pawlsSet = 0;
        }

        boolean hasPosition(int position) {
            return position >= 0 && position < positions;
        }

        boolean isIn(int lever) {
            return (leversIn >> lever & 1) != 0;
        }

        boolean isProgramIn(int program) {
            for (int index = 0; index < lengthOf(program); index++) {
                if (!isIn(leverAt(program, index))) {
                    return false;
                }
            }
            return true;
        }

        private static int cell(int lever, int position) {
            return lever * MOST_POSITIONS + position;
        }

        int numbers(int lever, int position) {
            int cell = cell(lever, position);
            return (int) (100 * backs.get(cell) + forwards.get(cell));
        }

        void setNumbers(int lever, int position, int back, int forward) {
            int cell = cell(lever, position);
            backs.set(cell, back);
            forwards.set(cell, forward);
        }

        /** The tenths of the chance that the wheel really moves back. */
        int tenthsBack(int lever, int position) {
            if (!isIn(lever) || hasBit(pawlsSet, position)) {
                return 0;
            }
            return (int) backs.get(cell(lever, position));
        }

        /** The tenths of the chance that the wheel really moves forward. */
        int tenthsForward(int lever, int position) {
            return isIn(lever) ? (int) forwards.get(cell(lever, position)) : 0;
        }

        int before(int position) {
            return position > 0 ? position - 1 : positions - 1;
        }

        int after(int position) {
            return position + 1 < positions ? position + 1 : 0;
        }
    }

    /** A run by drawn numbers. */
    private static final class Walk {
        private int position;
        private int index;
        private int seed;
        private int gain;
        private int ticks;

        void rewind(int newPosition, int newSeed) {
            position = newPosition;
            index = 0;
            seed = newSeed;
            gain = 0;
            ticks = 0;
        }

        void copy(Walk other) {
            position = other.position;
            index = other.index;
            seed = other.seed;
            gain = other.gain;
            ticks = other.ticks;
        }

        boolean isInSituationOf(Walk other) {
            return position == other.position && index == other.index && seed == other.seed;
        }

        void tick(Wheel wheel, int program) {
            int lever = leverAt(program, index);
            seed = (141 * seed + 187) % SEEDS;
            int draw = seed / SEEDS_OF_DRAW;
            if (draw < wheel.tenthsBack(lever, position)) {
                position = wheel.before(position);
                gain--;
            } else if (draw >= TENTHS - wheel.tenthsForward(lever, position)) {
                position = wheel.after(position);
                gain++;
            }
            index = indexAfter(program, index);
            ticks++;
        }
    }

    /** How a run comes round, found by two walks through the same situations. */
    private static final class Cycle {
        /** Far above what a search needs: there are at most 16000 situations. */
        private static final int MOST_STEPS = 1000000;

        private final Walk near;
        private final Walk far;
        private int lead;
        private int period;
        private int gain;

        Cycle() {
            near = new Walk();
            far = new Walk();
        }

        void find(Wheel wheel, int program, Walk from) {
            findPeriod(wheel, program, from);
            findLead(wheel, program, from);
        }

        /** The near walk waits ever longer, so that in the end it waits within the cycle and long enough. */
        private void findPeriod(Wheel wheel, int program, Walk from) {
            near.copy(from);
            far.copy(from);
            period = 0;
            int wait = 1;
            for (int step = 0; step < MOST_STEPS; step++) {
                far.tick(wheel, program);
                period++;
                if (far.isInSituationOf(near)) {
                    break;
                }
                if (period == wait) {
                    near.copy(far);
                    wait *= 2;
                    period = 0;
                }
            }
            gain = far.gain - near.gain;
        }

        private void findLead(Wheel wheel, int program, Walk from) {
            near.copy(from);
            far.copy(from);
            for (int step = 0; step < period; step++) {
                far.tick(wheel, program);
            }
            lead = 0;
            for (int step = 0; step < MOST_STEPS && !far.isInSituationOf(near); step++) {
                near.tick(wheel, program);
                far.tick(wheel, program);
                lead++;
            }
        }

        int part(int what) {
            if (what == 0) {
                return lead;
            }
            return what == 1 ? period : gain;
        }
    }

    /** Reads a text character by character; what it knows of an item stands from the item's name on. */
    private static final class Reader {
        private static final int AT_NAME = 0;
        private static final int AT_COLON = 1;
        private static final int AT_BACK = 2;
        private static final int AT_FORWARD = 3;
        private static final int AFTER_PAIR = 4;
        private static final int AT_LETTER = 5;
        private static final int AFTER_LETTER = 6;

        private int positions;
        private int stage;
        private boolean isOfProgram;
        private int items;
        private int lever;
        private int pairs;
        private int back;
        private int forward;
        private int program;

        void open(int positionsOfWheel) {
            positions = positionsOfWheel;
            stage = AT_NAME;
            items = 0;
        }

        boolean hasPair() {
            return stage == AFTER_PAIR;
        }

        boolean hasProgram() {
            return stage == AFTER_LETTER;
        }

        boolean isAtEnd() {
            return stage == AFTER_LETTER || stage == AFTER_PAIR && pairs == positions;
        }

        /** Answers false, and stays where it is, if no text goes on with this character. */
        boolean take(int code) {
            switch (stage) {
                case AT_NAME: return takeName(code);
                case AT_COLON: return takeColon(code);
                case AT_BACK: return takeBack(code);
                case AT_FORWARD: return takeForward(code);
                case AFTER_PAIR: return pairs < positions ? takeComma(code) : takeSemicolon(code);
                case AT_LETTER: return takeLetter(code);
                default: return takeLetter(code) || takeSemicolon(code);
            }
        }

        private boolean takeName(int code) {
            if (code != 'P' && !isLever(code - 'A')) {
                return false;
            }
            isOfProgram = code == 'P';
            lever = code - 'A';
            pairs = 0;
            program = 0;
            items++;
            stage = AT_COLON;
            return true;
        }

        private boolean takeColon(int code) {
            if (code != ':') {
                return false;
            }
            stage = isOfProgram ? AT_LETTER : AT_BACK;
            return true;
        }

        private boolean takeBack(int code) {
            if (!isWithin(code, '0', '9')) {
                return false;
            }
            back = code - '0';
            stage = AT_FORWARD;
            return true;
        }

        private boolean takeForward(int code) {
            if (!isWithin(code, '0', '9') || back + (code - '0') > TENTHS) {
                return false;
            }
            forward = code - '0';
            pairs++;
            stage = AFTER_PAIR;
            return true;
        }

        private boolean takeComma(int code) {
            if (code != ',') {
                return false;
            }
            stage = AT_BACK;
            return true;
        }

        private boolean takeSemicolon(int code) {
            if (code != ';') {
                return false;
            }
            stage = AT_NAME;
            return true;
        }

        private boolean takeLetter(int code) {
            int longer = 4 * program + (code - 'A') + 1;
            if (!isLever(code - 'A') || !isProgram(longer)) {
                return false;
            }
            program = longer;
            stage = AFTER_LETTER;
            return true;
        }
    }

    /** Chances, times 10 for each tick, of positions and gains; limits of the gain end it early. */
    private static final class Spread {
        private final Row now;
        private final Row next;
        private int money;
        private int goal;
        private int ticks;
        private int positions;
        private long lost;
        private long won;

        Spread() {
            now = new Row((2 * OUT_OF_REACH + 1) * MOST_POSITIONS);
            next = new Row((2 * OUT_OF_REACH + 1) * MOST_POSITIONS);
        }

        void limit(int newMoney, int newGoal) {
            money = newMoney;
            goal = newGoal;
        }

        void pass(Wheel wheel, int program, Walk from, int ticksToPass) {
            now.clear();
            now.set(cell(0, from.position), 1L);
            lost = 0;
            won = 0;
            positions = wheel.positions;
            ticks = 0;
            int index = from.index;
            for (int tick = 0; tick < ticksToPass; tick++) {
                passTick(wheel, leverAt(program, index));
                ticks++;
                index = indexAfter(program, index);
            }
        }

        private static int cell(int gain, int position) {
            return (gain + OUT_OF_REACH) * MOST_POSITIONS + position;
        }

        private void passTick(Wheel wheel, int lever) {
            next.clear();
            lost *= TENTHS;
            won *= TENTHS;
            for (int gain = -ticks; gain <= ticks; gain++) {
                for (int position = 0; position < positions; position++) {
                    long chance = now.get(cell(gain, position));
                    int back = wheel.tenthsBack(lever, position);
                    int forward = wheel.tenthsForward(lever, position);
                    put(gain - 1, wheel.before(position), chance * back);
                    put(gain, position, chance * (TENTHS - back - forward));
                    put(gain + 1, wheel.after(position), chance * forward);
                }
            }
            now.copy(next);
        }

        private void put(int gain, int position, long chance) {
            if (gain <= -money) {
                lost += chance;
            } else if (gain >= goal) {
                won += chance;
            } else {
                next.add(cell(gain, position), chance);
            }
        }

        long ofPosition(int position) {
            long sum = 0;
            for (int gain = -ticks; gain <= ticks; gain++) {
                sum += now.get(cell(gain, position));
            }
            return sum;
        }

        long ofGain(int least) {
            long sum = 0;
            for (int gain = Math.max(least, -ticks); gain <= ticks; gain++) {
                for (int position = 0; position < positions; position++) {
                    sum += now.get(cell(gain, position));
                }
            }
            return sum;
        }

        long ofOutcome(int what) {
            if (what == 0) {
                return lost;
            }
            return what == 1 ? won : ofGain(-ticks);
        }
    }

    /** A fraction in lowest terms; 0 / 0 stands for none. */
    private static final class Fraction {
        /** Euclid's steps between two longs are fewer than this. */
        private static final int MOST_STEPS = 200;

        private long numerator;
        private long denominator;

        void setNone() {
            numerator = 0;
            denominator = 0;
        }

        void copy(Fraction other) {
            numerator = other.numerator;
            denominator = other.denominator;
        }

        void set(long above, long below) {
            long divisor = commonDivisor(Math.abs(above), below);
            if (divisor <= 0) {
                setNone();
            } else {
                numerator = above / divisor;
                denominator = below / divisor;
            }
        }

        private static long commonDivisor(long one, long other) {
            long larger = one;
            long smaller = other;
            for (int step = 0; step < MOST_STEPS && smaller > 0; step++) {
                long rest = larger % smaller;
                larger = smaller;
                smaller = rest;
            }
            return larger;
        }

        boolean isNone() {
            return denominator <= 0;
        }

        long part(int what) {
            return what == 0 ? numerator : denominator;
        }

        /** Compares by whole parts and then by the rests turned over: products would not fit into a long. */
        int order(Fraction other) {
            long above = numerator;
            long below = denominator;
            long otherAbove = other.numerator;
            long otherBelow = other.denominator;
            int sign = 1;
            for (int step = 0; step < MOST_STEPS && below > 0 && otherBelow > 0; step++) {
                long whole = Math.floorDiv(above, below);
                long otherWhole = Math.floorDiv(otherAbove, otherBelow);
                if (whole != otherWhole) {
                    return whole < otherWhole ? -sign : sign;
                }
                long rest = above - whole * below;
                long otherRest = otherAbove - otherWhole * otherBelow;
                above = below;
                below = rest;
                otherAbove = otherBelow;
                otherBelow = otherRest;
                sign = -sign;
            }
            if (below == otherBelow) {
                return 0;
            }
            // A rest of 0, turned over, is greater than all others.
            return below == 0 ? sign : -sign;
        }
    }

    /** The rounds of a program: what follows what, the classes, the shares and the average. */
    private static final class Rounds {
        private static final int MINOR = MOST_POSITIONS - 1;

        private final Row follows;
        private final Row gains;
        private final Row reach;
        private final Row weights;
        private final Row minor;
        private final Row next;
        private final Fraction result;
        private int positions;
        private int ticks;
        private long scale;
        private long weightSum;
        private int classCount;

        Rounds() {
            follows = new Row(MOST_POSITIONS * MOST_POSITIONS);
            gains = new Row(MOST_POSITIONS);
            reach = new Row(MOST_POSITIONS);
            weights = new Row(MOST_POSITIONS);
            minor = new Row(MINOR * MINOR);
            next = new Row(MOST_POSITIONS * MOST_POSITIONS);
            result = new Fraction();
        }

        void study(Wheel wheel, int program) {
            open(wheel.positions);
            for (int index = 0; index < lengthOf(program); index++) {
                passTick(wheel, leverAt(program, index));
            }
            findReach();
            countClasses();
            weightSum = 0;
            for (int position = 0; position < positions; position++) {
                weights.set(position, weightOf(position));
                weightSum += weights.get(position);
            }
        }

        private static int cell(int from, int to) {
            return from * MOST_POSITIONS + to;
        }

        private void open(int positionsOfWheel) {
            positions = positionsOfWheel;
            ticks = 0;
            scale = 1;
            gains.clear();
            follows.clear();
            for (int from = 0; from < positions; from++) {
                follows.set(cell(from, from), 1L);
            }
        }

        /** The chances and the gains are kept times the scale, which is 10 for each tick. */
        private void passTick(Wheel wheel, int lever) {
            next.clear();
            for (int from = 0; from < positions; from++) {
                gains.set(from, TENTHS * gains.get(from));
                for (int position = 0; position < positions; position++) {
                    long chance = follows.get(cell(from, position));
                    long back = chance * wheel.tenthsBack(lever, position);
                    long forward = chance * wheel.tenthsForward(lever, position);
                    next.add(cell(from, wheel.before(position)), back);
                    next.add(cell(from, position), TENTHS * chance - back - forward);
                    next.add(cell(from, wheel.after(position)), forward);
                    gains.add(from, forward - back);
                }
            }
            follows.copy(next);
            ticks++;
            scale *= TENTHS;
        }

        /** For each position, the mask of those that can be reached from it. */
        private void findReach() {
            for (int from = 0; from < positions; from++) {
                int mask = 1 << from;
                for (int to = 0; to < positions; to++) {
                    mask = withBit(mask, to, hasBit(mask, to) || follows.get(cell(from, to)) > 0);
                }
                reach.set(from, mask);
            }
            for (int via = 0; via < positions; via++) {
                for (int from = 0; from < positions; from++) {
                    if (hasBit((int) reach.get(from), via)) {
                        reach.set(from, reach.get(from) | reach.get(via));
                    }
                }
            }
        }

        private void countClasses() {
            classCount = 0;
            for (int position = 0; position < positions; position++) {
                if (isFirstOfClass(position)) {
                    classCount++;
                }
            }
        }

        private boolean isFirstOfClass(int position) {
            long all = reach.get(position);
            for (int other = 0; other < positions; other++) {
                if (hasBit((int) all, other) && (other < position || reach.get(other) != all)) {
                    return false;
                }
            }
            return true;
        }

        /**
         * With one class, the shares are in proportion to the minors on the diagonal of the matrix that has
         * the chances of leaving on its diagonal and, below 0, those of following beside it. A minor is at
         * most 10 to the power of 12, so that all sums of the averages fit into a long. On a smaller wheel,
         * rows of the unit matrix stand for the missing positions.
         */
        private long weightOf(int position) {
            for (int row = 0; row < MINOR; row++) {
                int from = row < position ? row : row + 1;
                for (int column = 0; column < MINOR; column++) {
                    int to = column < position ? column : column + 1;
                    minor.set(MINOR * row + column, entry(from, to));
                }
            }
            return determinant();
        }

        private long entry(int from, int to) {
            if (from >= positions || to >= positions) {
                return from == to ? 1 : 0;
            }
            return (from == to ? scale : 0) - follows.get(cell(from, to));
        }

        private long determinant() {
            return minor.get(0) * (minor.get(4) * minor.get(8) - minor.get(5) * minor.get(7))
                    - minor.get(1) * (minor.get(3) * minor.get(8) - minor.get(5) * minor.get(6))
                    + minor.get(2) * (minor.get(3) * minor.get(7) - minor.get(4) * minor.get(6));
        }

        void takeAverage() {
            if (classCount != 1) {
                result.setNone();
                return;
            }
            long sum = 0;
            for (int position = 0; position < positions; position++) {
                sum += weights.get(position) * gains.get(position);
            }
            result.set(sum, weightSum * scale * ticks);
        }

        void takeShare(int position) {
            if (classCount != 1) {
                result.setNone();
            } else {
                result.set(weights.get(position), weightSum);
            }
        }
    }

    /** The search for the best program. */
    private static final class Search {
        private final Fraction average;
        private int found;

        Search() {
            average = new Fraction();
            found = NONE;
        }

        /** Ascending numbers are ascending lengths too, so that of equal programs the first one stays. */
        void find(Wheel wheel, Rounds rounds, int most) {
            found = NONE;
            average.setNone();
            int end = 1 << (2 * most);
            for (int number = FIRST_PROGRAM; number < end; number++) {
                if (isProgram(number) && wheel.isProgramIn(number)) {
                    rounds.study(wheel, number);
                    rounds.takeAverage();
                    consider(number, rounds.result);
                }
            }
        }

        private void consider(int number, Fraction its) {
            if (!its.isNone() && (found == NONE || its.order(average) > 0)) {
                found = number;
                average.copy(its);
            }
        }

        long part(int what) {
            if (found == NONE) {
                return NONE;
            }
            return what == 0 ? found : average.part(what - 1);
        }
    }
}
