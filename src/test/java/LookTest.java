/** Promises 8 to 13: train, cell, block, value, dispatch, why. */
public final class LookTest {
    private static final Class<IndexOutOfBoundsException> INDEX = IndexOutOfBoundsException.class;
    private static final Class<IllegalArgumentException> ARGUMENT = IllegalArgumentException.class;
    private static final int MIN = Integer.MIN_VALUE;
    private static final int MAX = Integer.MAX_VALUE;

    public static void main(String[] args) {
        refused();
        train();
        drag();
        cell();
        block();
        heldUp();
        value();
        dispatch();
        why();
        whyDwellAheadOfGap();
        Check.finish("LookTest");
    }

    private static void refused() {
        BlockCoaster x = new BlockCoaster();
        x.addTrain(0);
        x.pass(5);
        long before = x.digest();
        for (int wrong : new int[] {-1, 1, MIN, MAX}) {
            Check.dueThrow("8: train(" + wrong + ", 0)", INDEX, () -> x.train(wrong, 0));
            Check.dueThrow("8: train(" + wrong + ", 10)", INDEX, () -> x.train(wrong, 10));
            Check.dueThrow("12: dispatch(" + wrong + ", 0)", INDEX, () -> x.dispatch(wrong, 0));
            Check.dueThrow("12: dispatch(" + wrong + ", 2)", INDEX, () -> x.dispatch(wrong, 2));
            Check.dueThrow("13: why(" + wrong + ")", INDEX, () -> x.why(wrong));
        }
        for (int wrong : new int[] {-1, 14, MIN, MAX}) {
            Check.dueThrow("9: cell(" + wrong + ", 0)", INDEX, () -> x.cell(wrong, 0));
            Check.dueThrow("9: cell(" + wrong + ", 4)", INDEX, () -> x.cell(wrong, 4));
        }
        for (int wrong : new int[] {-1, 4, MIN, MAX}) {
            Check.dueThrow("10: block(" + wrong + ", 0)", INDEX, () -> x.block(wrong, 0));
            Check.dueThrow("10: block(" + wrong + ", 5)", INDEX, () -> x.block(wrong, 5));
        }
        for (int wrong : new int[] {-1, 12, MIN, MAX}) {
            Check.dueThrow("8: train(0, " + wrong + ")", ARGUMENT, () -> x.train(0, wrong));
            Check.dueThrow("9: cell(0, " + wrong + ")", ARGUMENT, () -> x.cell(0, wrong));
            Check.dueThrow("10: block(0, " + wrong + ")", ARGUMENT, () -> x.block(0, wrong));
            Check.dueThrow("11: value(" + wrong + ")", ARGUMENT, () -> x.value(wrong));
            Check.dueThrow("12: dispatch(0, " + wrong + ")", ARGUMENT, () -> x.dispatch(0, wrong));
        }
        Check.dueThrow("8: train(0, 10)", ARGUMENT, () -> x.train(0, 10));
        Check.dueThrow("9: cell(0, 4)", ARGUMENT, () -> x.cell(0, 4));
        Check.dueThrow("10: block(0, 5)", ARGUMENT, () -> x.block(0, 5));
        Check.dueThrow("12: dispatch(0, 2)", ARGUMENT, () -> x.dispatch(0, 2));
        Check.due("nothing changed", before, x.digest());
    }

    private static void train() {
        BlockCoaster x = Rides.on("5b5.5.5b5.9.");
        x.addTrain(0);
        x.pass(4);
        Check.due("8: stands", "0 0 0 0 20 1 4 7 0 0 5", Rides.train(x, 0));
        x.pass(2);
        Check.due("8: runs", "0 0 25 5 20 0 0 7 0 0 0", Rides.train(x, 0));
        // 19 ticks more to cell 1 with square 18, 25 ticks of speed 4 to cell 2 with square 11, 34 of speed 3 to the brake
        x.pass(19);
        Check.due("8: block behind the brake cell", "1 1 18 0 20 0 0 7 1 0 0", Rides.train(x, 0));
        x.pass(24);
        Check.due("8: speed 4", "1 1 18 96 20 0 0 7 1 0 0", Rides.train(x, 0));
        x.pass(1);
        Check.due("8: speed 3", "2 1 11 0 20 0 0 7 2 0 0", Rides.train(x, 0));
        x.pass(33);
        Check.due("8: nearly", "2 1 11 99 20 0 0 7 2 0 0", Rides.train(x, 0));
        x.pass(1);
        Check.due("8: the progress does not go on at a brake", "3 1 0 0 20 1 0 7 3 0 5", Rides.train(x, 0));
        x.pass(1 + 20 + 25);
        Check.due("8: no way up", "4 0 0 0 20 2 0 7 4 0 1", Rides.train(x, 0));
        Check.due("8: progress goes over the cell's end", 0, x.train(0, 3));
        overTheEnd();
    }

    private static void overTheEnd() {
        BlockCoaster x = Rides.on("5b5.5.5.5.5b");
        x.set(3, 40);
        x.set(0, 5);
        x.addTrain(0);
        x.pass(5 + 20 + 25);
        Check.due("8: square 11 on cell 2", "2 1 11 0 40 0 0 7 2 0 0", Rides.train(x, 0));
        x.pass(34);
        Check.due("8: 102 goes on as 2", "3 1 4 2 40 0 0 7 3 0 0", Rides.train(x, 0));
        x.pass(49);
        Check.due("8: speed 2", "3 1 0 0 40 2 0 7 3 0 1", Rides.train(x, 0));
    }

    private static void drag() {
        BlockCoaster x = new BlockCoaster();
        int[] airs = {0, 1, 9, 10, 11, 20, 30, 31, 40};
        int[] drags = {6, 5, 5, 5, 4, 4, 3, 2, 2};
        for (int i = 0; i < airs.length; i++) {
            x.set(3, airs[i]);
            x.addTrain(0);
            Check.due("8: drag at " + airs[i], 3 + drags[i], x.train(0, 7));
            x.set(0, 20);
            Check.due("8: drag with friction 20", 20 + drags[i], x.train(0, 7));
            x.set(0, 3);
            x.takeTrain();
        }
    }

    private static void cell() {
        BlockCoaster x = Rides.on("3.4l5b6.7b8l9.");
        int[] heights = {3, 4, 5, 6, 7, 8, 9};
        int[] kinds = {0, 1, 2, 0, 2, 1, 0};
        int[] blocks = {0, 0, 0, 1, 1, 0, 0};
        x.addTrain(1);
        for (int cell = 0; cell < 7; cell++) {
            Check.due("9: cell " + cell, heights[cell] + " " + kinds[cell] + " " + blocks[cell] + " "
                    + (cell == 4 ? 0 : -1), Rides.cell(x, cell));
        }
        x.pass(21);
        Check.due("9: it has left", -1, x.cell(4, 3));
        Check.due("9: it has come", 0, x.cell(5, 3));
    }

    private static void block() {
        BlockCoaster x = Rides.on("3.4l5b6.7b8l9.");
        Check.due("10: across the end", "5 2 5 -1 0", Rides.block(x, 0));
        Check.due("10: block 1", "3 4 2 -1 0", Rides.block(x, 1));
        x.addTrain(1);
        Check.due("10: a train in it", "3 4 2 0 0", Rides.block(x, 1));
        x.pass(20);
        Check.due("10: still on the brake cell", 0, x.block(1, 3));
        x.pass(1);
        Check.due("10: it is in the next one", "5 2 5 0 0", Rides.block(x, 0));
        Check.due("10: it has left", "3 4 2 -1 0", Rides.block(x, 1));
        BlockCoaster y = Rides.on("0b0b0.0.0.");
        Check.due("10: begins behind the last brake", "2 0 4 -1 0", Rides.block(y, 0));
        Check.due("10: one cell", "1 1 1 -1 0", Rides.block(y, 1));
    }

    private static void heldUp() {
        BlockCoaster x = Rides.on("0b0b0b0b");
        x.addTrain(3);
        x.addTrain(2);
        x.pass(21);
        Check.due("10: addTrain counts nothing", "0 0 0 0", counts(x));
        x.pass(19);
        Check.due("10: not yet there", "0 0 0 0", counts(x));
        x.pass(1);
        Check.due("10: came while train 0 was ahead", "0 0 0 1", counts(x));
        Check.due("10: and stands", "3 3 0 0 20 1 0 7 1 0 2", Rides.train(x, 1));
        x.pass(5);
        Check.due("10: train 0 came to a free way", "0 0 0 1", counts(x));
        Check.due("10: waiting is over", 0, x.train(1, 5));
        BlockCoaster y = Rides.on("0b0b0.0.");
        y.addTrain(0);
        y.pass(25);
        Check.due("10: a lone train is not held up by itself", "0 0", y.block(0, 4) + " " + y.block(1, 4));
        Check.due("10: moved to the brake", 1, y.train(0, 0));
    }

    private static String counts(BlockCoaster x) {
        return x.block(0, 4) + " " + x.block(1, 4) + " " + x.block(2, 4) + " " + x.block(3, 4);
    }

    private static void value() {
        BlockCoaster x = Rides.on("0b9.0b0.");
        x.set(0, 1);
        x.set(1, 2);
        x.set(2, 7);
        x.set(3, 4);
        x.addTrain(0);
        x.pass(22);
        Check.due("11: values", "4 2 1 22 1 2 7 4 1 1 1 9", Rides.values(x));
        x.addTrain(1);
        x.setHeight(1, 0);
        Check.due("11: values", "4 2 2 22 1 2 7 4 1 1 1 0", Rides.values(x));
        x.rescue(0);
        Check.due("11: nothing lies", 0, x.value(10));
    }

    private static void dispatch() {
        BlockCoaster x = Rides.on("0b0b0b0b");
        x.set(1, 1);
        Check.dueThrow("12: none", INDEX, () -> x.dispatch(0, 0));
        x.addTrain(2);
        x.addTrain(0);
        x.pass(1);
        Check.due("12: tick and train", "0 1", x.dispatch(0, 0) + " " + x.dispatch(0, 1));
        Check.dueThrow("12: one is kept", INDEX, () -> x.dispatch(1, 0));
        x.takeTrain();
        Check.due("12: they stay", "0 1", x.dispatch(0, 0) + " " + x.dispatch(0, 1));
        BlockCoaster y = Rides.on("0b0b0b0b");
        y.set(1, 1);
        y.addTrain(0);
        Rides.pass(y, 84 * 29 + 1);
        Check.due("12: 30 are kept", "0 0", y.dispatch(29, 0) + " " + y.dispatch(29, 1));
        Check.dueThrow("12: no 31st", INDEX, () -> y.dispatch(30, 0));
        y.pass(84);
        Check.due("12: 31 so far", 31, y.value(8));
        for (int index = 0; index < 30; index++) {
            Check.due("12: dispatch " + index, 84 * (30 - index), y.dispatch(index, 0));
        }
        Check.dueThrow("12: the oldest is dropped", INDEX, () -> y.dispatch(30, 0));
        Check.dueThrow("12: no such index comes first", INDEX, () -> y.dispatch(30, 2));
    }

    private static void why() {
        BlockCoaster x = Rides.on("0b9.0b0.");
        x.addTrain(0);
        Check.due("13: dwell", 3, x.why(0));
        x.pass(3);
        Check.due("13: dwell", 3, x.why(0));
        x.pass(1);
        Check.due("13: the next tick counted", 5, x.why(0));
        x.addTrain(1);
        Check.due("13: not free", 2, x.why(0));
        Check.due("13: not free", 2, x.why(1));
        x.undo();
        x.pass(1);
        Check.due("13: runs", 0, x.why(0));
        x.pass(20);
        Check.due("13: lies", 1, x.why(0));
        x.rescue(0);
        x.set(2, 500);
        Check.due("13: dwell comes ahead of gap", 3, x.why(0));
        x.pass(4);
        Check.due("13: gap", 4, x.why(0));
        x.set(2, 25);
        Check.due("13: 29 - 4 is at least 25", 5, x.why(0));
        x.set(2, 26);
        Check.due("13: 29 - 4 is less than 26", 4, x.why(0));
    }

    private static void whyDwellAheadOfGap() {
        BlockCoaster x = Rides.on("0b0b0b0b");
        x.set(1, 50);
        x.addTrain(2);
        Check.due("13: neither dwell nor gap at another brake", 5, x.why(0));
        x.addTrain(0);
        x.addTrain(1);
        Check.due("13: not free comes ahead of the dwell", 2, x.why(1));
    }
}
