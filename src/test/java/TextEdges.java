/** TEXTS: what is a family, and the kinds and positions of faults. */
final class TextEdges extends ClauseGroup {
    TextEdges(Check check, Doc doc) {
        super(check, doc);
    }

    @Override
    void all() {
        atMost60Bytes();
        weightsAreDigits1To9();
        blanksAnywhere();
        aHeadAlone();
        bytesThatCannotStandThere();
        endsTooEarly();
        digit0();
        eleventhConnection();
        eleventhWhereNoneCouldStand();
        fifthParenthesis();
        fifthWhereNoneCouldStand();
        fromLeftToRight();
        behindOtherTexts();
    }

    private void read(String text, int connections) {
        ConnectionFamily f = new ConnectionFamily();
        due("load() of '" + text + "'", Texts.load(f, text), connections);
        due("fault() of '" + text + "'", f.fault(), NONE);
        due("told(5) of '" + text + "'", f.told(OPEN), connections);
        due("told(12) of '" + text + "'", f.told(BYTES), text.length());
    }

    private void faulty(String text, int at, int kind) {
        ConnectionFamily f = new ConnectionFamily();
        f.open(0, 4);
        long before = Prints.withoutHistory(f);
        due("load() of '" + text + "'", Texts.load(f, text), -10 - at);
        due("fault() of '" + text + "'", f.fault(), kind);
        due("state after '" + text + "'", Prints.withoutHistory(f), before);
        due("told(11) after '" + text + "'", f.told(REMEMBERED), 1);
        due("told(12) after '" + text + "'", f.told(BYTES), text.length());
    }

    private static String blanks(int n) {
        return " ".repeat(n);
    }

    private void atMost60Bytes() {
        clause("TEXTS", "The text buffer has at most 60 bytes.");
        read("7" + blanks(59), 1);
        read(blanks(59) + "7", 1);
        read("1(" + blanks(56) + "2)", 2);
        faulty(blanks(60), 60, 1);
        faulty("1(2" + blanks(57), 60, 1);
        ConnectionFamily f = new ConnectionFamily();
        due("load() of 61 bytes, the last of which is refused", Texts.load(f, "7" + blanks(59) + "7"), 1);
        due("told(12)", f.told(BYTES), 60);
    }

    private void weightsAreDigits1To9() {
        clause("TEXTS", "where a weight is a digit 1 to 9");
        for (int weight = 1; weight <= 9; weight++) {
            ConnectionFamily f = new ConnectionFamily();
            due("load()", Texts.load(f, weight + "(" + weight + ")"), 2);
            properties("weight " + weight, f, WEIGHT, weight, weight);
        }
        // the bytes before '0' and behind '9'
        faulty("/", 0, 1);
        faulty(":", 0, 1);
        faulty("1(/)", 2, 1);
        faulty("1(:)", 2, 1);
    }

    private void blanksAnywhere() {
        clause("TEXTS", "and blanks can stand anywhere.");
        read(" 1 ( 2 ( 3 ) 4 ) ", 4);
        read("1  (23)", 3);
        read("1(2  3)", 3);
        read("1(2(3)  4)", 4);
        faulty(" 1 ( ) ", 5, 1);
        // the bytes around the blank: 31 can't be typed, and '!' is none
        faulty("1!", 1, 1);
    }

    private void aHeadAlone() {
        clause("TEXTS", "A text that is no family has a fault, with a kind and a position;");
        read("1", 1);
        read("1(1)", 2);
        faulty("", 0, 1);
        faulty("1()", 2, 1);
        faulty("11", 1, 1);
    }

    private void bytesThatCannotStandThere() {
        clause("TEXTS", "1 a byte that cannot stand there");
        for (int b = 33; b <= 126; b++) {
            char sign = (char) b;
            boolean isDigit = b >= '0' && b <= '9';
            if (!isDigit) {
                faulty(sign + "1", 0, 1);
                faulty("1(" + sign, 2, 1);
            }
            if (b != '(') {
                faulty("1" + sign, 1, 1);
            }
            if (!isDigit && b != '(' && b != ')') {
                faulty("1(2" + sign, 3, 1);
            }
            if (!isDigit && b != ')') {
                faulty("1(2(3)" + sign, 6, 1);
            }
            faulty("1(2)" + sign, 4, 1);
        }
    }

    private void endsTooEarly() {
        clause("TEXTS", "or the text ends too early (its length is the position);");
        faulty("", 0, 1);
        faulty(" ", 1, 1);
        faulty("1(", 2, 1);
        faulty("1(2", 3, 1);
        faulty("1(2(3", 5, 1);
        faulty("1(2(3)", 6, 1);
        faulty("1(2(3) ", 7, 1);
        faulty("1(1(1(1(1", 9, 1);
        faulty("1(123456789", 11, 1);
        faulty("1(123456789(", 12, 1);
    }

    private void digit0() {
        clause("TEXTS", "2 the digit 0 where a weight is due;");
        faulty("0", 0, 2);
        faulty("  0", 2, 2);
        faulty("0(1)", 0, 2);
        faulty("1(0)", 2, 2);
        faulty("1(2 0)", 4, 2);
        faulty("1(20)", 3, 2);
        faulty("1(2(3)0)", 6, 2);
        faulty("1(2(0))", 4, 2);
        // as a tenth one it is no 11th
        faulty("1(123456780)", 10, 2);
        // behind the whole family no weight is due
        faulty("10", 1, 1);
        faulty("1(2)0", 4, 1);
    }

    private void eleventhConnection() {
        clause("TEXTS", "3 an 11th connection, where it could stand otherwise (its weight, also a 0);");
        read("1(123456789)", 10);
        read("1(1(2(3(456789))))", 10);
        faulty("1(1234567891)", 11, 3);
        faulty("1(1234567890)", 11, 3);
        faulty("1(123456789 1)", 12, 3);
        faulty("1(123456789(1))", 12, 3);
        faulty("1(123456789(0))", 12, 3);
        faulty("1(12345678(9)1)", 13, 3);
        faulty("1(12345678(9)0)", 13, 3);
        faulty("1(12345678(91))", 12, 3);
    }

    private void eleventhWhereNoneCouldStand() {
        clause("TEXTS", "3 an 11th connection, where it could stand otherwise");
        faulty("1(123456789)1", 12, 1);
        faulty("1(123456789)0", 12, 1);
        faulty("1(123456789)(1)", 12, 1);
        faulty("1(123456789()", 12, 1);
    }

    private void fifthParenthesis() {
        clause("TEXTS", "4 an opening parenthesis within four open ones, where it could stand otherwise.");
        read("1(1(1(1(1))))", 5);
        read("1(1(1(1(1)1(1))1(1(1))))", 10);
        faulty("1(1(1(1(1(1)))))", 9, 4);
        faulty("1(1(1(1(1 (1)))))", 10, 4);
        faulty("1(1(1(1(12(1)))))", 10, 4);
        faulty("1(1(1(1(1)1(1(1)))))", 13, 4);
        faulty("1(1(1(1(123456(", 14, 4);
    }

    private void fifthWhereNoneCouldStand() {
        clause("TEXTS", "4 an opening parenthesis within four open ones");
        faulty("1(1(1(1((1)))))", 8, 1);
        faulty("1(1(1(1(1)(1))))", 10, 1);
        faulty("1(1(1(1(1)", 10, 1);
    }

    /** What an earlier text has left behind does not matter. */
    private void behindOtherTexts() {
        clause("TEXTS", "A text that is no family has a fault");
        String[] texts = {"1", "1(", "1(2", "1(2)", "1(1(1(1(1(", "1(1234567891)", "0", ""};
        int[] answers = {1, -12, -13, 2, -19, -21, -10, -10};
        int[] kinds = {NONE, 1, 1, NONE, 4, 3, 2, 1};
        String[] wrong = {"(1)", ")", "", "0", "x"};
        for (int before = 0; before < texts.length; before++) {
            ConnectionFamily f = new ConnectionFamily();
            for (int i = 0; i < texts.length; i++) {
                Texts.load(f, texts[before]);
                due("load() of '" + texts[i] + "' behind '" + texts[before] + "'", Texts.load(f, texts[i]), answers[i]);
                due("fault() of '" + texts[i] + "' behind '" + texts[before] + "'", f.fault(), kinds[i]);
            }
            for (String text : wrong) {
                Texts.load(f, texts[before]);
                due("load() of '" + text + "' behind '" + texts[before] + "'", Texts.load(f, text), -10);
            }
        }
    }

    private void fromLeftToRight() {
        clause("TEXTS", "it is read from left to right:");
        faulty("0x", 0, 2);
        faulty("x0", 0, 1);
        faulty("1(0(1(1(1(1", 2, 2);
        faulty("1(1(1(1(1(0", 9, 4);
        faulty("1(12345678911(", 11, 3);
        faulty("1(1x123456789", 3, 1);
    }
}
