/** Promises 20 to 22: append, clearText, parse. */
public final class TextTest {
    private static final Class<IllegalArgumentException> ARGUMENT = IllegalArgumentException.class;
    private static final Class<IllegalStateException> STATE = IllegalStateException.class;
    private static final String BRAKES = "0b0b0b0b0b0b0b0b";

    public static void main(String[] args) {
        append();
        clearText();
        parse();
        parseKeepsWhatIsSet();
        syntaxErrors();
        syntaxErrorChangesNothing();
        Check.finish("TextTest");
    }

    private static void append() {
        BlockCoaster x = new BlockCoaster();
        long before = x.digest();
        for (int wrong : new int[] {-1, 128, Integer.MIN_VALUE, Integer.MAX_VALUE}) {
            Check.dueThrow("20: append(" + wrong + ")", ARGUMENT, () -> x.append(wrong));
        }
        Check.due("20: nothing changed", before, x.digest());
        for (int length = 1; length <= 90; length++) {
            Check.due("20: length", length, x.append(length == 1 ? 0 : length == 2 ? 127 : 48));
        }
        long full = x.digest();
        Check.dueThrow("20: 90 bytes", STATE, () -> x.append(48));
        Check.dueThrow("20: the range comes first", ARGUMENT, () -> x.append(128));
        Check.due("20: nothing changed", full, x.digest());
        Check.due("20: still 90", 90, x.clearText());
        Check.dueThrow("20: not undoable", STATE, x::undo);
    }

    private static void clearText() {
        BlockCoaster x = new BlockCoaster();
        Check.due("21: empty", 0, x.clearText());
        Rides.write(x, "0b0");
        Check.due("21: length that it had", 3, x.clearText());
        Check.due("21: empty again", 0, x.clearText());
        Check.due("21: the next byte is the first one", 1, x.append('0'));
        Check.dueThrow("21: not undoable", STATE, x::undo);
    }

    private static void parse() {
        BlockCoaster x = new BlockCoaster();
        Rides.write(x, "3.4l5b6.7b8l9.");
        Check.due("22: cells", 7, x.parse());
        Check.due("22: values", "7 2 0 0 3 5 0 20 0 -1 0 9", Rides.values(x));
        Check.due("22: cell 1", "4 1 0 -1", Rides.cell(x, 1));
        Check.due("22: cell 4", "7 2 1 -1", Rides.cell(x, 4));
        Check.due("22: cell 6", "9 0 0 -1", Rides.cell(x, 6));
        Check.due("22: the text stays", 14, x.clearText());
        Check.due("22: undoable", 0, x.undo());
        Check.due("22: undone", "14 4 0 0 3 5 0 20 0 -1 0 7", Rides.values(x));
        Rides.write(x, "0b0b0.0.");
        Check.due("22: the fewest cells and brakes", 4, x.parse());
        Rides.write(x, BRAKES);
        Check.due("22: the most brakes", 8, x.parse());
        Rides.write(x, BRAKES + "9l".repeat(22));
        Check.due("22: the most cells", 30, x.parse());
        Check.due("22: again", 30, x.parse());
        Check.due("22: each parse is saved", 3, x.undo());
    }

    private static void parseKeepsWhatIsSet() {
        BlockCoaster x = Rides.on("0b0b0b0b");
        x.set(0, 1);
        x.set(1, 2);
        x.set(2, 9);
        x.set(3, 4);
        x.addTrain(3);
        x.addTrain(2);
        x.pass(100);
        Check.due("22: something is counted", true, x.value(8) > 0 && x.block(3, 4) > 0);
        Check.due("22: the same text", 4, x.parse());
        Check.due("22: nothing is counted", "4 4 0 0 1 2 9 4 0 -1 0 0", Rides.values(x));
        for (int block = 0; block < 4; block++) {
            Check.due("22: nothing is counted", 0, x.block(block, 4));
        }
        Check.dueThrow("22: no dispatch", IndexOutOfBoundsException.class, () -> x.dispatch(0, 0));
        x.undo();
        Check.due("22: undone", "100 2", x.value(3) + " " + x.value(2));
        Check.due("22: the dispatches are back", "64 1 22 0",
                x.dispatch(0, 0) + " " + x.dispatch(0, 1) + " " + x.dispatch(1, 0) + " " + x.dispatch(1, 1));
    }

    private static void syntaxErrors() {
        error("", 0);
        error("0", 1);
        error("0b", 2);
        error("0b0b0", 5);
        error("0b0b0.", 6);
        error("0b0b0.0", 7);
        error("0b0.0.0.", 8);
        error("0l0.0.0.0.", 10);
        error("b", 0);
        error("00", 1);
        error("0bb", 2);
        error("/b0b0.0.", 0);
        error(":b0b0.0.", 0);
        error("0b0b0.-.", 6);
        error("0b0b0.0B", 7);
        error("0b0b0.0L", 7);
        error("0b0b0.0/", 7);
        error("0b0b0.0-", 7);
        error("0b0b0.0\u0000", 7);
        error("\u007fb0b0.0.", 0);
        error("0b0b0.0.\n", 8);
        error(" 0b0b0.0.", 0);
        error("0b0b0.0.0.x", 10);
        error("0x0x", 1);
        error(BRAKES + "0b", 17);
        error(BRAKES + "0.0b", 19);
        error(BRAKES + "0l0", 19);
        error("1.".repeat(30), 60);
        error("1.".repeat(29) + "1b", 60);
        error("1b1b" + "1.".repeat(28) + "1", 60);
        error("1b1b" + "1.".repeat(28) + "b", 60);
        error("1b1b" + "1.".repeat(28) + "1.", 60);
        error("1.".repeat(45), 60);
        error("1".repeat(90), 1);
    }

    private static void error(String text, int position) {
        BlockCoaster x = new BlockCoaster();
        Rides.write(x, text);
        Check.due("22: error in \"" + text + "\"", -10 - position, x.parse());
        Check.due("22: the text stays", text.length(), x.clearText());
        Check.dueThrow("22: not undoable with an error", STATE, x::undo);
    }

    private static void syntaxErrorChangesNothing() {
        BlockCoaster x = new BlockCoaster();
        x.addTrain(0);
        x.pass(50);
        Rides.write(x, "9b9b9.9.9");
        long before = x.digest();
        Check.due("22: ends too early", -19, x.parse());
        Check.due("22: nothing changed", before, x.digest());
        x.append('l');
        Check.due("22: more of it", 5, x.parse());
    }
}
