/** The edges of promises 20 to 22: append, clearText, parse. */
public final class TextEdgesTest {
    private static final Class<IllegalArgumentException> ARGUMENT = IllegalArgumentException.class;
    private static final Class<IllegalStateException> STATE = IllegalStateException.class;
    private static final Class<IndexOutOfBoundsException> INDEX = IndexOutOfBoundsException.class;
    private static final String EIGHT_BRAKES = "0b".repeat(8);

    public static void main(String[] args) {
        byteRange();
        ninetyBytes();
        rangeComesFirst();
        newLength();
        clearAnswersTheLength();
        clearThenAppend();
        textIsNotUndoable();
        fourToThirtyCells();
        tooFewCells();
        digits();
        kinds();
        brakeCells();
        firstWrongByte();
        digitOfA31stCell();
        brakeOfANinth();
        endsTooEarly();
        tooFewBrakeCells();
        errorAfterErrors();
        answersTheCells();
        answersTheError();
        errorChangesNothing();
        withoutTrains();
        nothingCounted();
        numbersStay();
        textStays();
        parseUndoable();
        parseOfTheSameTrack();
        Check.finish("TextEdgesTest");
    }

    private static void error(String text, int position) {
        BlockCoaster x = new BlockCoaster();
        Rides.write(x, text);
        Check.due("the error of \"" + text + "\"", -10 - position, x.parse());
    }

    private static void right(String text) {
        BlockCoaster x = new BlockCoaster();
        Rides.write(x, text);
        Check.due("the cells of \"" + text + "\"", text.length() / 2, x.parse());
    }

    private static void byteRange() {
        Check.sentence("Promise 20", "Throws `IllegalArgumentException` if value is out of range");
        BlockCoaster x = new BlockCoaster();
        for (int wrong : new int[] {-1, 128, -128, 255, Integer.MIN_VALUE, Integer.MAX_VALUE}) {
            Check.refused(x, "append(" + wrong + ")", ARGUMENT, () -> x.append(wrong));
        }
        Check.sentence("Promise 20", "- `value`: the byte, 0 to 127");
        Check.due("the least", 1, x.append(0));
        Check.due("the greatest", 2, x.append(127));
    }

    private static void ninetyBytes() {
        Check.sentence("Promise 20", "Throws `IllegalStateException` if the text has 90 bytes");
        BlockCoaster x = new BlockCoaster();
        Rides.write(x, "0".repeat(89));
        Check.due("the 90th", 90, x.append('0'));
        Check.refused(x, "a 91st", STATE, () -> x.append('0'));
        Check.refused(x, "once more", STATE, () -> x.append(127));
        Check.due("still 90", 90, x.clearText());
        Check.due("there is room again", 1, x.append('0'));
    }

    private static void rangeComesFirst() {
        Check.sentence("Promise 20, Terms", "If several exceptions apply, the one that is listed first is thrown.");
        BlockCoaster x = new BlockCoaster();
        Rides.write(x, "0".repeat(90));
        Check.refused(x, "append(-1) at 90", ARGUMENT, () -> x.append(-1));
        Check.refused(x, "append(128) at 90", ARGUMENT, () -> x.append(128));
    }

    private static void newLength() {
        Check.sentence("Promise 20", "Returns the new length of the text.");
        BlockCoaster x = new BlockCoaster();
        for (int length = 1; length <= 90; length++) {
            Check.due("the length", length, x.append(length));
        }
    }

    private static void clearAnswersTheLength() {
        Check.sentence("Promise 21", "Returns the length that it had.");
        BlockCoaster x = new BlockCoaster();
        Check.due("an empty one", 0, x.clearText());
        x.append('0');
        Check.due("one byte", 1, x.clearText());
        Check.due("it is empty", 0, x.clearText());
        Rides.write(x, "0".repeat(90));
        Check.due("a full one", 90, x.clearText());
        Check.due("it is empty", 0, x.clearText());
    }

    private static void clearThenAppend() {
        Check.sentence("Promise 21", "Empties the text.");
        BlockCoaster x = new BlockCoaster();
        Rides.write(x, EIGHT_BRAKES + "x");
        Rides.write(x, "1b2b3.");
        Check.due("nothing of the longer one is left", -16, x.parse());
        x.append('4');
        x.append('l');
        Check.due("a text of its own", 4, x.parse());
        Check.due("highest", 4, x.value(11));
    }

    private static void textIsNotUndoable() {
        Check.sentence("Promise 23, Terms", "Each successful call of a method whose description says \"undoable\"");
        BlockCoaster x = new BlockCoaster();
        x.append('0');
        x.clearText();
        Check.refused(x, "undo", STATE, x::undo);
    }

    private static void fourToThirtyCells() {
        Check.sentence("Promise 22, Terms", "The text has at most 90 bytes: 4 to 30 cells");
        for (int cells = 4; cells <= 30; cells++) {
            right("0b" + "1.".repeat(cells - 2) + "2b");
        }
        error("0b1.2b", 6);
        error("0b" + "1.".repeat(29) + "2b", 60);
    }

    private static void tooFewCells() {
        Check.sentence("Promise 22, Terms", "or the length of the text if the text ends too early"
                + " (also with fewer than 4 cells, or 2 brake cells).");
        error("", 0);
        error("0b", 2);
        error("0b0b", 4);
        error("0b0b0b", 6);
        right("0b0b0b0b");
    }

    private static void digits() {
        Check.sentence("Promise 22, Terms", "each a digit, its height");
        for (char digit = '0'; digit <= '9'; digit++) {
            BlockCoaster x = Rides.on(digit + "b0b0." + digit + ".");
            Check.due("the digit " + digit, digit - '0', x.cell(0, 0));
            Check.due("the digit " + digit, digit - '0', x.cell(3, 0));
        }
        for (char wrong : new char[] {0, ' ', '-', '.', '/', ':', 'b', 'l', 'a', 127}) {
            error(wrong + "b0b0.0.", 0);
            error("0b0b0." + wrong + ".", 6);
        }
    }

    private static void kinds() {
        Check.sentence("Promise 22, Terms", "and \"l\" for a lift cell, \"b\" for a brake cell, or \".\" for neither.");
        BlockCoaster x = Rides.on("0l0b0.0b");
        Check.due("each", "1 2 0 2", x.cell(0, 1) + " " + x.cell(1, 1) + " " + x.cell(2, 1) + " " + x.cell(3, 1));
        for (char wrong : new char[] {0, ' ', '-', '/', '0', '9', 'a', 'c', 'k', 'm', 'B', 'L', 127}) {
            error("0" + wrong + "0b0b0.", 1);
            error("0b0b0.0" + wrong, 7);
        }
    }

    private static void brakeCells() {
        Check.sentence("Promise 22, Terms", "There are 2 to 8 brake cells.");
        right("0b0.0.0b");
        right("0b".repeat(4));
        right(EIGHT_BRAKES);
        right("0." + EIGHT_BRAKES + "0l".repeat(21));
        right("0.".repeat(22) + EIGHT_BRAKES);
        error("0b0.0.0.", 8);
        error(EIGHT_BRAKES + "0b", 17);
    }

    private static void firstWrongByte() {
        Check.sentence("Promise 22, Terms",
                "The syntax error position is the index of the first byte that cannot stand where it stands");
        String good = "0b1l2.3b4.";
        for (int at = 0; at < good.length(); at++) {
            error(good.substring(0, at) + "x" + good.substring(at + 1), at);
            error(good.substring(0, at) + "x".repeat(good.length() - at), at);
        }
        error(good + "x", 10);
        error(good + ".", 10);
        error(good + "5x", 11);
        error(good + "55", 11);
        error("0b1b2b3b x", 8);
        error("x", 0);
        error("bb", 0);
        error("00", 1);
    }

    private static void digitOfA31stCell() {
        Check.sentence("Promise 22, Terms", "(the digit of a 31st cell, the \"b\" of a ninth brake cell, too)");
        String thirty = "0b0b" + "1.".repeat(28);
        right(thirty);
        error(thirty + "1", 60);
        error(thirty + "1.", 60);
        error(thirty + "x", 60);
        error(thirty + "1.".repeat(15), 60);
        error("1.".repeat(31), 60);
    }

    private static void brakeOfANinth() {
        Check.sentence("Promise 22, Terms", "(the digit of a 31st cell, the \"b\" of a ninth brake cell, too)");
        error(EIGHT_BRAKES + "0b", 17);
        error(EIGHT_BRAKES + "0.0b", 19);
        error("0b".repeat(30), 17);
        error("0.".repeat(22) + EIGHT_BRAKES.substring(2) + "0b" + "0b", 60);
        error("0.".repeat(21) + EIGHT_BRAKES + "0b", 59);
        error(EIGHT_BRAKES + "0x0b", 17);
    }

    private static void endsTooEarly() {
        Check.sentence("Promise 22, Terms", "or the length of the text if the text ends too early");
        error("0", 1);
        error("0b0", 3);
        error("0b0b0.0", 7);
        error("0b0b0.0.0", 9);
        error("0b0b" + "0.".repeat(27) + "0", 59);
        error(EIGHT_BRAKES + "0", 17);
    }

    private static void tooFewBrakeCells() {
        Check.sentence("Promise 22, Terms", "(also with fewer than 4 cells, or 2 brake cells).");
        error("0.0l0.0l", 8);
        error("0b0l0.0l", 8);
        error("0.0l0.0b", 8);
        error("0l".repeat(15), 30);
        error("0.".repeat(29) + "0b", 60);
        error("0.".repeat(30), 60);
    }

    private static void errorAfterErrors() {
        Check.sentence("Promise 22",
                "-10 minus the syntax error position if there is a syntax error (then nothing changes).");
        BlockCoaster x = new BlockCoaster();
        Rides.write(x, "0b0b0.");
        Check.due("the first time", -16, x.parse());
        Check.due("the second time", -16, x.parse());
        x.append('0');
        Check.due("one byte more", -17, x.parse());
        x.append('.');
        Check.due("and one more", 4, x.parse());
        x.append('.');
        Check.due("one too many", -18, x.parse());
        Check.due("the last track stays", 4, x.value(0));
    }

    private static void answersTheCells() {
        Check.sentence("Promise 22", "Returns the number of cells");
        BlockCoaster x = new BlockCoaster();
        for (int cells : new int[] {4, 30, 5, 29}) {
            Rides.write(x, "0b" + "0.".repeat(cells - 2) + "0b");
            Check.due("the answer", cells, x.parse());
            Check.due("cells", cells, x.value(0));
            Check.due("the last brake cell", cells - 1, x.block(1, 1));
        }
    }

    private static void answersTheError() {
        Check.sentence("Promise 22", "-10 minus the syntax error position if there is a syntax error");
        BlockCoaster x = new BlockCoaster();
        Check.due("the least position", -10, x.parse());
        Rides.write(x, "0.".repeat(45));
        Check.due("the greatest position", -70, x.parse());
    }

    private static void errorChangesNothing() {
        Check.sentence("Promise 22", "(then nothing changes)");
        BlockCoaster x = new BlockCoaster();
        x.addTrain(0);
        x.pass(50);
        for (String text : new String[] {"", "0", "9b9b9.", "9b9b9.9.9", "9b9b9.9x", "9b".repeat(9), "9b" + "9.".repeat(40)}) {
            Rides.write(x, text);
            long before = x.digest();
            x.parse();
            Check.due("after \"" + text + "\"", before, x.digest());
        }
        Check.due("saved states", 1, x.undo());
    }

    private static void withoutTrains() {
        Check.sentence("Promise 22", "Makes the track that of the text, without trains, at tick 0");
        BlockCoaster x = Rides.on("0b".repeat(8));
        for (int train = 0; train < 4; train++) {
            x.addTrain(2 * train);
        }
        x.pass(100);
        Rides.write(x, "0b0b0.0.");
        x.parse();
        Check.due("trains and ticks", "0 0", x.value(2) + " " + x.value(3));
        Check.refused(x, "train(0, 0)", INDEX, () -> x.train(0, 0));
        Check.refused(x, "takeTrain()", STATE, x::takeTrain);
        Check.due("a block of the new track", "-1 -1", x.block(0, 3) + " " + x.block(1, 3));
        Check.refused(x, "a block of the old one", INDEX, () -> x.block(2, 0));
        Check.refused(x, "a cell of the old one", INDEX, () -> x.cell(4, 0));
        Check.due("a first train", 0, x.addTrain(1));
        Check.due("it is new", "1 1 0 0 20 1 0 7 0 0 5", Rides.train(x, 0));
    }

    private static void nothingCounted() {
        Check.sentence("Promise 22", "with nothing counted");
        BlockCoaster x = Rides.on("0b0b0b0b");
        x.set(1, 2);
        x.addTrain(3);
        x.addTrain(2);
        x.pass(500);
        Check.due("something is counted", true, x.value(8) > 2 && x.block(3, 4) > 0);
        Rides.write(x, EIGHT_BRAKES);
        x.parse();
        Check.due("no dispatch", "0 -1", x.value(8) + " " + x.value(9));
        Check.refused(x, "dispatch(0, 0)", INDEX, () -> x.dispatch(0, 0));
        for (int block = 0; block < 8; block++) {
            Check.due("held up at block " + block, 0, x.block(block, 4));
        }
    }

    private static void numbersStay() {
        Check.sentence("Promise 22", "the numbers that are set stay.");
        BlockCoaster x = new BlockCoaster();
        Rides.set(x, 20, 50, 500, 40);
        Rides.write(x, "0b0b0.0.");
        x.parse();
        Check.due("the greatest", "4 2 0 0 20 50 500 40 0 -1 0 0", Rides.values(x));
        Rides.set(x, 0, 1, 0, 0);
        x.parse();
        Check.due("the least", "4 2 0 0 0 1 0 0 0 -1 0 0", Rides.values(x));
    }

    private static void textStays() {
        Check.sentence("Promise 22", "The text stays as it is.");
        BlockCoaster x = new BlockCoaster();
        Rides.write(x, "0b0b0.0.");
        x.parse();
        x.append('5');
        x.append('l');
        Check.due("one cell more", 5, x.parse());
        Check.due("its height", 5, x.cell(4, 0));
        Check.due("the length", 10, x.clearText());
        Rides.write(x, "0b0");
        x.parse();
        Check.due("the length with an error", 3, x.clearText());
    }

    private static void parseUndoable() {
        Check.sentence("Promise 22", "Undoable, if there is no syntax error.");
        BlockCoaster x = new BlockCoaster();
        x.addTrain(1);
        x.pass(30);
        long before = x.digest();
        Rides.write(x, "0b0");
        x.parse();
        Rides.write(x, "0b0b0.0.");
        x.parse();
        Check.due("saved states", 2, x.undo());
        x.clearText();
        Check.due("the state before parse()", before, x.digest());
    }

    private static void parseOfTheSameTrack() {
        Check.sentence("Promise 22, Terms", "saves the state from before the call, even if the call changes nothing");
        BlockCoaster x = Rides.on("0b0b0.0.");
        x.parse();
        x.parse();
        Check.due("saved states", 2, x.undo());
    }
}
