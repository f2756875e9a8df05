/** The sentences on the input text, and those of promises 9 to 12: the buffer, its first error, and loading it. */
final class TextSentences {
    private static final String DIGITS = "0123456789";
    private static final String FULL = "C:09,18,27;B:36,45,54;A:63,72,81;C:90,19,28;B:37,46,55;P:CBA";

    private TextSentences() {
    }

    static void all() {
        inputText();
        syntaxErrors();
        promises9And10();
        promises11And12();
    }

    private static void inputText() {
        String full = "The buffer has at most 60 characters.";
        Sentence.test("Input text", full, TextSentences::sixtyCharacters);
        Sentence.test("Input text", full, TextSentences::sixtyAgainBehindClearBufferAndLoad);
        String items = "A text is one or more items separated by \";\".";
        Sentence.test("Input text", items, TextSentences::noItem);
        Sentence.test("Input text", items, TextSentences::oneItem);
        Sentence.test("Input text", items, TextSentences::asManyItemsAsThereIsRoomFor);
        Sentence.test("Input text", items, TextSentences::separatorsWithoutItems);
        String lever = "An item is the letter of a lever, \":\", and for each position, in ascending order and separated by "
                + "\",\", two digits: back and forward; their sum is at most 10.";
        Sentence.test("Input text", lever, TextSentences::aPairForEachPosition);
        Sentence.test("Input text", lever, TextSentences::onePairTooFewOrTooMany);
        Sentence.test("Input text", lever, TextSentences::pairsInAscendingOrder);
        Sentence.test("Input text", lever, TextSentences::oneDigitAndThree);
        Sentence.test("Input text", lever, TextSentences::allPairsOfDigits);
        String program = "Or an item is \"P\", \":\", and 1 to 4 letters of levers: a program.";
        Sentence.test("Input text", program, TextSentences::oneToFourLetters);
        Sentence.test("Input text", program, TextSentences::noLetterAndFive);
    }

    private static void syntaxErrors() {
        String error = "The buffer is read from left to right; a character is a syntax error if no text, of any length, begins "
                + "with the characters before it and this character.";
        Sentence.test("Input text", error, TextSentences::allCharactersWhereAnItemBegins);
        Sentence.test("Input text", error, TextSentences::allCharactersBehindALetter);
        Sentence.test("Input text", error, TextSentences::allCharactersAtTheFirstDigit);
        Sentence.test("Input text", error, TextSentences::allCharactersAtTheSecondDigit);
        Sentence.test("Input text", error, TextSentences::allCharactersBehindAPair);
        Sentence.test("Input text", error, TextSentences::allCharactersInAProgram);
        Sentence.test("Input text", error, TextSentences::anErrorAtEachPlace);
        Sentence.test("Input text", error, TextSentences::noRoomLeftIsNoError);
    }

    private static void promises9And10() {
        Sentence.test("Promise 9", "Appends a character to the buffer.", TextSentences::behindTheOthers);
        Sentence.test("Promise 9", "code: the character code, 33 to 126", TextSentences::allCharacterCodes);
        Sentence.test("Promise 9", "Returns the new length of the buffer.", TextSentences::lengthsFrom1To60);
        Sentence.test("Promise 9", "Throws IllegalArgumentException if code is not 33 to 126", TextSentences::noCharacterCode);
        Sentence.test("Promise 9", "Throws IllegalStateException if the buffer has 60 characters", TextSentences::fullBuffer);
        Sentence.test("Exceptions", "If several exceptions apply, the one that is named first in the throws clause is thrown.",
                TextSentences::noCharacterCodeForAFullBuffer);
        Sentence.test("Promise 10", "Clears the buffer.", TextSentences::nothingIsLeftInTheBuffer);
        Sentence.test("Promise 10", "Clears the buffer.", TextSentences::nothingIsLeftBehindAShorterText);
        Sentence.test("Promise 10", "Returns the length that it had.", TextSentences::lengthsOfTheEmptyAndTheFullBuffer);
    }

    private static void promises11And12() {
        Sentence.test("Promise 11", "Finds the first syntax error of the buffer.", TextSentences::theFirstOfSeveralErrors);
        String index = "Returns the index of the first character that is a syntax error; the length of the buffer if there is "
                + "none.";
        Sentence.test("Promise 11", index, TextSentences::noErrorInTheEmptyBuffer);
        Sentence.test("Promise 11", index, TextSentences::errorAtTheFirstCharacter);
        Sentence.test("Promise 11", index, TextSentences::errorAtTheLastCharacterAndNone);
        Sentence.test("Promise 11", index, TextSentences::anEndTooEarlyIsNoError);
        String load = "Carries out the items in the buffer, in their order, and clears the buffer: the numbers of levers are "
                + "set; a program becomes the present one, and the index becomes 0 (a text without a program leaves it).";
        Sentence.test("Promise 12", load, TextSentences::ofSeveralItemsTheLastOneCounts);
        Sentence.test("Promise 12", load, TextSentences::theBufferIsCleared);
        Sentence.test("Promise 12", load, TextSentences::otherNumbersStay);
        Sentence.test("Promise 12", load, TextSentences::theIndexBehindAProgram);
        Sentence.test("Promise 12", load, TextSentences::theIndexBehindATextWithoutAProgram);
        Sentence.test("Promise 12", "Returns the number of items.", TextSentences::oneToFifteenItems);
        String incomplete = "Throws IllegalArgumentException if the buffer is not a complete text";
        Sentence.test("Promise 12", incomplete, TextSentences::theEmptyBufferIsNoText);
        Sentence.test("Promise 12", incomplete, TextSentences::eachBeginningOfATextThatIsNone);
        Sentence.test("Promise 12", incomplete, TextSentences::aTextWithAnErrorBehindIt);
        Sentence.test("Promise 12", incomplete, TextSentences::aTextForAnotherWheel);
    }

    // ---- what the tests have in common

    private static FlashRatchet holding(int positions, String text) {
        FlashRatchet wheel = new FlashRatchet();
        wheel.begin(positions);
        Check.append(wheel, text);
        return wheel;
    }

    private static void dueError(int positions, String text, int place) {
        Check.due("firstError() of " + text + " on " + positions, holding(positions, text).firstError(), place);
    }

    private static void dueNoError(int positions, String text) {
        dueError(positions, text, text.length());
    }

    private static void dueItems(int positions, String text, int items) {
        Check.due("load() of " + text + " on " + positions, holding(positions, text).load(), items);
    }

    /** The text is refused, and neither the wheel nor the buffer changes. */
    private static void dueNoText(int positions, String text) {
        FlashRatchet wheel = Wheels.of(positions, "P:CABC");
        Wheels.setAll(wheel, 0, 4, 5);
        wheel.run(3);
        Check.append(wheel, text);
        int error = wheel.firstError();
        Check.dueThrow("load() of " + text + " on " + positions, wheel, Check.ARGUMENT, wheel::load);
        Check.due("error behind it", wheel.firstError(), error);
        Check.due("index behind it", wheel.count(3), 3);
        Check.due("program behind it", wheel.count(2), Wheels.numberOf("CABC"));
        Check.due("table behind it", wheel.table(0, positions - 1), 405);
        Check.due("buffer behind it", wheel.clearBuffer(), text.length());
    }

    private static void dueOnly(int positions, String beginning, String taken) {
        for (char sign = 33; sign <= 126; sign++) {
            int place = beginning.length() + (taken.indexOf(sign) >= 0 ? 1 : 0);
            dueError(positions, beginning + sign, place);
        }
    }

    private static String pairs(int count) {
        return "00,".repeat(count - 1) + "00";
    }

    // ---- the input text

    private static void sixtyCharacters() {
        FlashRatchet wheel = holding(3, FULL.substring(0, 59));
        Check.due("the 60th", wheel.append('A'), 60);
        Refused.dueException("the 61st", wheel, Check.STATE, each -> each.append('A'));
        Check.due("load() of 60", wheel.load(), 6);
    }

    private static void sixtyAgainBehindClearBufferAndLoad() {
        FlashRatchet wheel = holding(3, FULL);
        wheel.clearBuffer();
        Check.append(wheel, FULL);
        Check.due("no error in the second 60", wheel.firstError(), 60);
        wheel.load();
        Check.append(wheel, FULL);
        Check.due("no error in the third 60", wheel.firstError(), 60);
        wheel.begin(4);
        Refused.dueException("the 61st behind begin", wheel, Check.STATE, each -> each.append('A'));
    }

    private static void noItem() {
        for (int positions = 2; positions <= 4; positions++) {
            dueNoText(positions, "");
            dueNoError(positions, "");
        }
    }

    private static void oneItem() {
        for (int positions = 2; positions <= 4; positions++) {
            dueItems(positions, "P:A", 1);
            dueItems(positions, "C:" + pairs(positions), 1);
        }
    }

    private static void asManyItemsAsThereIsRoomFor() {
        String fifteen = "P:A;".repeat(14) + "P:B";
        dueItems(3, fifteen, 15);
        dueItems(3, fifteen + "C", 15);
        dueNoText(3, fifteen + ";");
        dueItems(2, "A:00,00;".repeat(6) + "B:00,00;P:A", 8);
        dueItems(4, "A:00,00,00,00;".repeat(4) + "P:AB", 5);
    }

    private static void separatorsWithoutItems() {
        dueError(3, ";", 0);
        dueError(3, ";P:A", 0);
        dueError(3, "P:A;;", 4);
        dueError(3, "P:A;;P:A", 4);
        dueNoError(3, "P:A;");
        dueNoText(3, "P:A;");
        dueNoText(3, ";");
        dueNoText(3, "P:A;;P:A");
    }

    private static void aPairForEachPosition() {
        for (int positions = 2; positions <= 4; positions++) {
            for (String letter : new String[] {"A", "B", "C"}) {
                String text = letter + ":" + pairs(positions);
                dueNoError(positions, text);
                dueItems(positions, text, 1);
                dueItems(positions, text + ";P:A", 2);
            }
        }
    }

    private static void onePairTooFewOrTooMany() {
        for (int positions = 2; positions <= 4; positions++) {
            String few = "A:" + pairs(positions - 1);
            dueNoError(positions, few);
            dueNoText(positions, few);
            dueError(positions, few + ";", few.length());
            String enough = "A:" + pairs(positions);
            dueNoText(positions, enough + ",00");
            dueError(positions, enough + ",00", enough.length());
        }
    }

    private static void pairsInAscendingOrder() {
        FlashRatchet wheel = holding(4, "B:12,34,50,07");
        wheel.load();
        int[] numbers = {102, 304, 500, 7};
        for (int position = 0; position <= 3; position++) {
            Check.due("table(1, " + position + ")", wheel.table(1, position), numbers[position]);
        }
    }

    private static void oneDigitAndThree() {
        for (int positions = 2; positions <= 4; positions++) {
            dueError(positions, "A:0,", 3);
            dueError(positions, "A:000", 4);
            String before = "A:" + pairs(positions).substring(1);
            dueError(positions, before, 3);
            String last = "A:" + pairs(positions);
            dueNoText(positions, last.substring(0, last.length() - 1));
            dueError(positions, last + "0", last.length());
        }
    }

    private static void allPairsOfDigits() {
        for (int back = 0; back <= 9; back++) {
            for (int forward = 0; forward <= 9; forward++) {
                for (String before : new String[] {"A:", "C:00,"}) {
                    String text = before + back + forward;
                    dueError(2, text, back + forward <= 10 ? text.length() : text.length() - 1);
                }
            }
        }
    }

    private static void oneToFourLetters() {
        for (String program : Wheels.programs()) {
            dueNoError(2, "P:" + program);
            FlashRatchet wheel = holding(2, "P:" + program);
            wheel.load();
            Check.due("the program of P:" + program, wheel.count(2), Wheels.numberOf(program));
        }
    }

    private static void noLetterAndFive() {
        dueNoError(3, "P:");
        dueNoText(3, "P:");
        dueError(3, "P:;", 2);
        for (String five : new String[] {"AAAAA", "ABCAB", "CCCCC"}) {
            dueError(3, "P:" + five, 6);
            dueNoText(3, "P:" + five);
        }
    }

    // ---- syntax errors

    private static void allCharactersWhereAnItemBegins() {
        for (int positions = 2; positions <= 4; positions++) {
            dueOnly(positions, "", "ABCP");
            dueOnly(positions, "P:A;", "ABCP");
            dueOnly(positions, "A:" + pairs(positions) + ";", "ABCP");
        }
    }

    private static void allCharactersBehindALetter() {
        for (String letter : new String[] {"A", "B", "C", "P"}) {
            dueOnly(3, letter, ":");
        }
    }

    private static void allCharactersAtTheFirstDigit() {
        for (int positions = 2; positions <= 4; positions++) {
            dueOnly(positions, "A:", DIGITS);
            dueOnly(positions, "C:" + pairs(positions - 1) + ",", DIGITS);
        }
    }

    private static void allCharactersAtTheSecondDigit() {
        for (int back = 0; back <= 9; back++) {
            String taken = DIGITS.substring(0, Math.min(10, 11 - back));
            dueOnly(3, "B:" + back, taken);
            dueOnly(3, "B:00,00," + back, taken);
        }
    }

    private static void allCharactersBehindAPair() {
        for (int positions = 2; positions <= 4; positions++) {
            for (int count = 1; count < positions; count++) {
                dueOnly(positions, "A:" + pairs(count), ",");
            }
            dueOnly(positions, "A:" + pairs(positions), ";");
        }
    }

    private static void allCharactersInAProgram() {
        dueOnly(3, "P:", "ABC");
        dueOnly(3, "P:C", "ABC;");
        dueOnly(3, "P:CB", "ABC;");
        dueOnly(3, "P:CBA", "ABC;");
        dueOnly(3, "P:CBAC", ";");
    }

    private static void anErrorAtEachPlace() {
        for (int place = 0; place < 60; place++) {
            String text = FULL.substring(0, place) + "!" + FULL.substring(place + 1);
            dueError(3, text, place);
            dueNoText(3, text);
        }
    }

    private static void noRoomLeftIsNoError() {
        String before = "P:A;".repeat(13);
        for (String end : new String[] {"P:AAAA;A", "P:AAAA;P", "P:AAA;A:", "A:00,00,", "P:AA;A:1", "P:A;P:A;"}) {
            Check.due("length", (before + end).length(), 60);
            dueNoError(3, before + end);
            dueNoText(3, before + end);
        }
    }

    // ---- promises 9 and 10

    private static void behindTheOthers() {
        FlashRatchet wheel = new FlashRatchet();
        wheel.append('P');
        wheel.append(':');
        wheel.append('A');
        wheel.append('C');
        wheel.load();
        Check.due("the program AC, not CA", wheel.count(2), Wheels.numberOf("AC"));
    }

    private static void allCharacterCodes() {
        for (int code = 33; code <= 126; code++) {
            FlashRatchet wheel = new FlashRatchet();
            Check.due("append(" + code + ")", wheel.append(code), 1);
            Check.due("length", wheel.clearBuffer(), 1);
        }
    }

    private static void lengthsFrom1To60() {
        FlashRatchet wheel = new FlashRatchet();
        for (int length = 1; length <= 60; length++) {
            Check.due("append", wheel.append(33 + length), length);
        }
        wheel.clearBuffer();
        Check.due("append behind clearBuffer()", wheel.append('P'), 1);
        Check.append(wheel, ":A");
        wheel.load();
        Check.due("append behind load()", wheel.append(126), 1);
    }

    private static void noCharacterCode() {
        for (int wrong : new int[] {32, 127, 0, -1, 128, 255, 256 + 'A', 65536 + 'A', Integer.MIN_VALUE, Integer.MAX_VALUE}) {
            Refused.due("append(" + wrong + ")", Check.ARGUMENT, wheel -> wheel.append(wrong));
        }
    }

    private static void fullBuffer() {
        Refused.dueFrom(Start.ON_4, "append('A')", Check.STATE, wheel -> wheel.append('A'));
        Refused.dueFrom(Start.ON_4, "append(33)", Check.STATE, wheel -> wheel.append(33));
        Refused.dueFrom(Start.ON_4, "append(126)", Check.STATE, wheel -> wheel.append(126));
    }

    private static void noCharacterCodeForAFullBuffer() {
        for (int wrong : Wheels.outside(33, 126)) {
            Refused.dueFrom(Start.ON_4, "append(" + wrong + ")", Check.ARGUMENT, wheel -> wheel.append(wrong));
        }
    }

    private static void nothingIsLeftInTheBuffer() {
        for (Start start : Start.values()) {
            FlashRatchet wheel = start.wheel();
            wheel.clearBuffer();
            Check.due(start + ", firstError()", wheel.firstError(), 0);
            Refused.dueException(start + ", load()", wheel, Check.ARGUMENT, FlashRatchet::load);
            Check.due(start + ", append()", wheel.append('A'), 1);
        }
    }

    private static void nothingIsLeftBehindAShorterText() {
        FlashRatchet wheel = new FlashRatchet();
        for (String before : new String[] {"P:CBA;P:A", "P:C;;", "P:C!", "P:CCCCC"}) {
            Check.append(wheel, before);
            wheel.clearBuffer();
            Check.append(wheel, "P:C");
            Check.due("firstError() of P:C behind " + before, wheel.firstError(), 3);
            Check.due("load() of P:C behind " + before, wheel.load(), 1);
            Check.due("the program of P:C behind " + before, wheel.count(2), 3);
        }
    }

    private static void lengthsOfTheEmptyAndTheFullBuffer() {
        FlashRatchet wheel = new FlashRatchet();
        Check.due("empty", wheel.clearBuffer(), 0);
        wheel.append('~');
        Check.due("of 1", wheel.clearBuffer(), 1);
        Check.append(wheel, FULL);
        Check.due("full", wheel.clearBuffer(), 60);
        Check.due("empty again", wheel.clearBuffer(), 0);
    }

    // ---- promise 11

    private static void theFirstOfSeveralErrors() {
        dueError(3, "xyz", 0);
        dueError(3, "Ax:x", 1);
        dueError(3, "P:Ax;P:Bx", 3);
        dueError(3, "P:ABCAA;;", 6);
        dueError(3, "A:56,56,56", 3);
    }

    private static void noErrorInTheEmptyBuffer() {
        for (int positions = 2; positions <= 4; positions++) {
            dueError(positions, "", 0);
        }
    }

    private static void errorAtTheFirstCharacter() {
        dueError(3, "!", 0);
        dueError(3, "~" + FULL.substring(0, 59), 0);
        dueError(3, ":A", 0);
    }

    private static void errorAtTheLastCharacterAndNone() {
        dueError(3, FULL, 60);
        dueError(3, FULL.substring(0, 59) + "D", 59);
        dueError(3, FULL.substring(0, 59), 59);
        dueError(3, FULL.substring(0, 58) + "D", 58);
        dueError(3, "A", 1);
        dueError(3, "AA", 1);
    }

    private static void anEndTooEarlyIsNoError() {
        for (int length = 0; length <= 60; length++) {
            dueNoError(3, FULL.substring(0, length));
        }
    }

    // ---- promise 12

    private static void ofSeveralItemsTheLastOneCounts() {
        FlashRatchet wheel = holding(2, "A:11,22;A:33,44;P:A;P:BC;A:90,09;P:CCB");
        Check.due("load()", wheel.load(), 6);
        Check.due("table(0, 0)", wheel.table(0, 0), 900);
        Check.due("table(0, 1)", wheel.table(0, 1), 9);
        Check.due("the program", wheel.count(2), Wheels.numberOf("CCB"));
    }

    private static void theBufferIsCleared() {
        for (String text : new String[] {"P:A", FULL}) {
            FlashRatchet wheel = holding(3, text);
            wheel.load();
            Check.due("firstError() behind " + text, wheel.firstError(), 0);
            Refused.dueException("load() again", wheel, Check.ARGUMENT, FlashRatchet::load);
            Check.due("clearBuffer() behind " + text, wheel.clearBuffer(), 0);
        }
    }

    private static void otherNumbersStay() {
        FlashRatchet wheel = new FlashRatchet();
        for (int lever = 0; lever <= 2; lever++) {
            Wheels.setAll(wheel, lever, 1, lever);
        }
        Check.load(wheel, "B:00,10,01;P:B");
        int[] numbers = {100, 100, 100, 0, 100, 1, 102, 102, 102};
        for (int place = 0; place < 9; place++) {
            Check.due("table " + place, wheel.table(place / 3, place % 3), numbers[place]);
        }
    }

    private static void theIndexBehindAProgram() {
        for (String text : new String[] {"P:ABCA", "P:ABC;A:00,00,00", "A:00,00,00;P:CC"}) {
            FlashRatchet wheel = Wheels.of(3, "P:ABCA");
            wheel.run(7);
            Check.due("index before " + text, wheel.count(3), 3);
            Check.load(wheel, text);
            Check.due("index behind " + text, wheel.count(3), 0);
            Check.due("ticks behind " + text, wheel.count(6), 7);
        }
    }

    private static void theIndexBehindATextWithoutAProgram() {
        for (int index = 0; index <= 3; index++) {
            FlashRatchet wheel = Wheels.of(3, "P:ABCA");
            wheel.run(4 + index);
            Check.load(wheel, "A:00,00,00;B:11,11,11");
            Check.due("index", wheel.count(3), index);
            Check.due("program", wheel.count(2), Wheels.numberOf("ABCA"));
        }
    }

    private static void oneToFifteenItems() {
        for (int items = 1; items <= 15; items++) {
            dueItems(3, "P:A;".repeat(items - 1) + "P:C", items);
        }
        dueItems(2, "A:00,00;B:00,00", 2);
        dueItems(3, FULL, 6);
    }

    private static void theEmptyBufferIsNoText() {
        Refused.dueFrom(Start.NEW, "load()", Check.ARGUMENT, FlashRatchet::load);
    }

    private static void eachBeginningOfATextThatIsNone() {
        Refused.dueFrom(Start.ON_2, "load()", Check.ARGUMENT, FlashRatchet::load);
        String text = "A:19,28,37;P:ABCA;B:46,55,64";
        for (int length = 0; length <= text.length(); length++) {
            String beginning = text.substring(0, length);
            boolean isText = beginning.matches("A:19,28,37(;P:[ABC]{1,4}(;B:46,55,64)?)?");
            if (isText) {
                dueItems(3, beginning, beginning.split(";").length);
            } else {
                dueNoText(3, beginning);
            }
        }
    }

    private static void aTextWithAnErrorBehindIt() {
        dueNoText(3, "P:A!");
        dueNoText(3, "A:00,00,00;P:B;x");
        dueNoText(3, "A:11,11,11;P:B;A:00,00,56");
        dueNoText(3, FULL.substring(0, 59) + "!");
    }

    private static void aTextForAnotherWheel() {
        FlashRatchet wheel = holding(3, "P:B;A:12,34,50");
        for (int positions = 2; positions <= 4; positions += 2) {
            wheel.begin(positions);
            Refused.dueException("load() on " + positions, wheel, Check.ARGUMENT, FlashRatchet::load);
            Check.due("the program stays", wheel.count(2), 1);
        }
        wheel.begin(3);
        Check.due("load() on 3", wheel.load(), 2);
        Check.due("table(0, 2)", wheel.table(0, 2), 500);
    }
}
