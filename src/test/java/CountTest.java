/** Promises 23 to 26: what there is, the mean gain and the digest. */
public final class CountTest {
    private CountTest() {
    }

    public static void main(String[] arguments) {
        promise23Count();
        promise24Table();
        promise25MeanGain();
        promise26Digest();
        promise26DigestSeesAll();
        Check.end();
    }

    private static void promise23Count() {
        FlashRatchet wheel = new FlashRatchet();
        wheel.begin(4);
        wheel.setTable(0, 3, 0, 10);
        wheel.setTable(1, 0, 0, 10);
        wheel.gear(2, false);
        wheel.pawl(1, true);
        wheel.pawl(3, true);
        wheel.setProgram(27);
        wheel.restart(3, 42);
        wheel.run(2);
        int seed = (141 * ((141 * 42 + 187) % 1000) + 187) % 1000;
        int[] counts = {4, 1, 27, 2, seed, 2, 2, 3, 10, 3};
        for (int what = 0; what < counts.length; what++) {
            Check.due("count(" + what + ")", wheel.count(what), counts[what]);
        }
        for (int wrong : new int[] {10, -1, Integer.MIN_VALUE, Integer.MAX_VALUE}) {
            Check.dueThrow("count(" + wrong + ")", wheel, Check.ARGUMENT, () -> wheel.count(wrong));
        }
    }

    private static void promise24Table() {
        FlashRatchet wheel = new FlashRatchet();
        wheel.begin(4);
        for (int lever = 0; lever < 3; lever++) {
            for (int position = 0; position < 4; position++) {
                wheel.setTable(lever, position, lever + 1, position + 2);
            }
        }
        wheel.setTable(2, 3, 10, 0);
        wheel.gear(0, false);
        wheel.pawl(1, true);
        for (int lever = 0; lever < 3; lever++) {
            for (int position = 0; position < 4; position++) {
                int due = lever == 2 && position == 3 ? 1000 : 100 * (lever + 1) + position + 2;
                Check.due("table(" + lever + ", " + position + ")", wheel.table(lever, position), due);
            }
        }
        Check.dueThrow("lever 3", wheel, Check.INDEX, () -> wheel.table(3, 0));
        Check.dueThrow("lever -1", wheel, Check.INDEX, () -> wheel.table(-1, 0));
        Check.dueThrow("position 4", wheel, Check.INDEX, () -> wheel.table(0, 4));
        Check.dueThrow("position -1", wheel, Check.INDEX, () -> wheel.table(0, -1));
        wheel.begin(2);
        Check.dueThrow("position 2 of 2", wheel, Check.INDEX, () -> wheel.table(0, 2));
    }

    private static void promise25MeanGain() {
        FlashRatchet wheel = new FlashRatchet();
        Check.due("no ticks", wheel.meanGain(), 0.0);
        wheel.run(3);
        Check.due("no gain", wheel.meanGain(), 0.0);
        for (int position = 0; position < 3; position++) {
            wheel.setTable(0, position, 10, 0);
            wheel.setTable(1, position, 0, 10);
        }
        wheel.run(4);
        Check.due("4 back of 7", wheel.meanGain(), -4.0 / 7.0);
        wheel.setProgram(2);
        wheel.run(6);
        Check.due("2 forward of 13", wheel.meanGain(), 2.0 / 13.0);
        wheel.restart(0, 0);
        Check.due("after restart", wheel.meanGain(), 0.0);
        wheel.run(500);
        Check.due("all forward", wheel.meanGain(), 1.0);
    }

    private static long mix(long hash, long value) {
        return 31 * hash + value;
    }

    /** The digest as the document lists it, made of the other calls. */
    static long listed(FlashRatchet wheel, String buffer) {
        long hash = 2029;
        for (int what = 0; what <= 9; what++) {
            hash = mix(hash, wheel.count(what));
        }
        int positions = wheel.count(0);
        for (int lever = 0; lever < 3; lever++) {
            for (int position = 0; position < positions; position++) {
                hash = mix(hash, wheel.table(lever, position));
            }
        }
        for (int what = 0; what <= 2; what++) {
            hash = mix(hash, wheel.cycle(what));
        }
        for (int position = 0; position < positions; position++) {
            hash = mix(hash, wheel.chance(6, position));
        }
        hash = mix(hash, wheel.chanceOfGain(6, 1));
        for (int what = 0; what <= 2; what++) {
            hash = mix(hash, wheel.game(2, 2, 6, what));
        }
        int program = wheel.count(2);
        hash = mix(hash, wheel.classes(program));
        hash = mix(mix(hash, wheel.average(program, 0)), wheel.average(program, 1));
        for (int position = 0; position < positions; position++) {
            hash = mix(mix(hash, wheel.share(program, position, 0)), wheel.share(program, position, 1));
        }
        for (int what = 0; what <= 2; what++) {
            hash = mix(hash, wheel.best(2, what));
        }
        hash = mix(hash, wheel.paradox());
        hash = mix(hash, buffer.length());
        for (char sign : buffer.toCharArray()) {
            hash = mix(hash, sign);
        }
        return hash;
    }

    private static void promise26Digest() {
        FlashRatchet wheel = new FlashRatchet();
        Check.due("digest, new", wheel.digest(), listed(wheel, ""));
        Check.load(wheel, "A:54,54,54;B:70,15,15;P:AABB");
        Check.due("digest, loaded", wheel.digest(), listed(wheel, ""));
        wheel.gear(2, false);
        Check.due("there is a paradox", wheel.paradox(), 1);
        Check.due("digest, paradox", wheel.digest(), listed(wheel, ""));
        wheel.restart(1, 321);
        wheel.run(123);
        Check.append(wheel, "~!x");
        Check.due("digest, later", wheel.digest(), listed(wheel, "~!x"));
        Check.due("digest again", wheel.digest(), listed(wheel, "~!x"));
        wheel.begin(2);
        Check.due("digest, 2 positions", wheel.digest(), listed(wheel, "~!x"));
        wheel.begin(4);
        wheel.clearBuffer();
        Check.load(wheel, "C:12,34,00,55;B:01,10,01,10;P:BCC");
        wheel.run(5);
        wheel.pawl(2, true);
        Check.due("digest, 4 positions", wheel.digest(), listed(wheel, ""));
    }

    private static void promise26DigestSeesAll() {
        FlashRatchet wheel = new FlashRatchet();
        long before = wheel.digest();
        wheel.append('A');
        Check.dueThat("digest sees the buffer", wheel.digest() != before);
        before = wheel.digest();
        wheel.clearBuffer();
        wheel.append('B');
        Check.dueThat("digest sees the character", wheel.digest() != before);
        before = wheel.digest();
        wheel.setTable(2, 2, 1, 0);
        Check.dueThat("digest sees a table", wheel.digest() != before);
        before = wheel.digest();
        wheel.run(1000 / 2);
        wheel.run(1000 / 2);
        Check.dueThat("digest sees the ticks", wheel.digest() != before);
    }
}
