/** The edges of promises 2 to 6: addTrain, takeTrain, rescue, set, setHeight. */
public final class CallEdgesTest {
    private static final Class<IndexOutOfBoundsException> INDEX = IndexOutOfBoundsException.class;
    private static final Class<IllegalArgumentException> ARGUMENT = IllegalArgumentException.class;
    private static final Class<IllegalStateException> STATE = IllegalStateException.class;
    private static final int MIN = Integer.MIN_VALUE;
    private static final int MAX = Integer.MAX_VALUE;

    public static void main(String[] args) {
        addTrainToNoBlock();
        addTrainToTheOutermostBlocks();
        addTrainAtTheBrake();
        addTrainAfterATakenOne();
        addTrainNumbers();
        addTrainToFour();
        addTrainToABlockThatIsNotFree();
        addTrainNoBlockComesFirst();
        addTrainUndoable();
        takeTrainWithoutOne();
        takeTrainWithTheGreatestNumber();
        takeTrainLeaves();
        takeTrainKeepsDispatches();
        takeTrainUndoable();
        rescueNoTrain();
        rescueNotInAValley();
        rescueToTheBrake();
        rescueAcrossTheEnd();
        rescueOnTheBrakeCell();
        rescueAnswersTheCell();
        rescueUndoable();
        frictionRange();
        dwellRange();
        gapRange();
        airRange();
        setWhatRange();
        setWhatComesFirst();
        setAnswersThePrevious();
        setUndoable();
        setHeightNoCell();
        setHeightOfTheOutermostCells();
        setHeightRange();
        setHeightCellComesFirst();
        setHeightAnswersThePrevious();
        setHeightUndoable();
        Check.finish("CallEdgesTest");
    }

    private static void addTrainToNoBlock() {
        Check.sentence("Promise 2", "Throws `IndexOutOfBoundsException` if there is no such block");
        for (int blocks : new int[] {2, 4, 8}) {
            BlockCoaster x = Rides.on("0b".repeat(blocks) + "0.0.");
            for (int wrong : new int[] {-1, blocks, blocks + 1, MIN, MAX}) {
                Check.refused(x, "addTrain(" + wrong + ") of " + blocks, INDEX, () -> x.addTrain(wrong));
            }
        }
    }

    private static void addTrainToTheOutermostBlocks() {
        Check.sentence("Promise 2", "Puts a train at the brake of a block");
        for (int blocks : new int[] {2, 4, 8}) {
            BlockCoaster x = Rides.on("0.0." + "0b".repeat(blocks));
            x.addTrain(0);
            x.addTrain(blocks - 1);
            Check.due("block 0", 2, x.train(0, 0));
            Check.due("the last of " + blocks, blocks + 1, x.train(1, 0));
        }
    }

    private static void addTrainAtTheBrake() {
        Check.sentence("Promise 2", "standing, with 0 ticks of standing and the warmth of the air.");
        for (int air : new int[] {0, 40}) {
            BlockCoaster x = Rides.on("0b0b0b0b");
            x.set(3, air);
            x.pass(7);
            x.addTrain(3);
            Check.due("air " + air, "3 3 0 0 " + air + " 1 0 " + (air == 0 ? 9 : 5) + " 0 0 5", Rides.train(x, 0));
        }
    }

    private static void addTrainAfterATakenOne() {
        Check.sentence("Promise 2", "standing, with 0 ticks of standing and the warmth of the air.");
        BlockCoaster x = Rides.on("0b0b0b0b");
        x.addTrain(3);
        x.pass(24);
        Check.due("it stood for 3 ticks, moved, and came to the station", "0 0 0 0 20 1 3 7 1 1 3", Rides.train(x, 0));
        x.takeTrain();
        x.addTrain(1);
        Check.due("the next one with its number did not", "1 1 0 0 20 1 0 7 0 0 5", Rides.train(x, 0));
        x.pass(30);
        x.takeTrain();
        x.set(3, 10);
        x.addTrain(2);
        Check.due("nor did it run", "2 2 0 0 10 1 0 8 0 0 5", Rides.train(x, 0));
    }

    private static void addTrainNumbers() {
        Check.sentence("Promise 2", "Returns the number of the train.");
        BlockCoaster x = Rides.on("0b".repeat(8));
        Check.due("the first", 0, x.addTrain(7));
        Check.due("the second", 1, x.addTrain(3));
        Check.due("the third", 2, x.addTrain(5));
        Check.due("the fourth", 3, x.addTrain(0));
        x.takeTrain();
        x.takeTrain();
        Check.due("after two are taken", 2, x.addTrain(1));
    }

    private static void addTrainToFour() {
        Check.sentence("Promise 2", "Throws `IllegalStateException` if there are 4 trains, or the block is not free");
        BlockCoaster x = Rides.on("0b".repeat(8));
        x.addTrain(0);
        x.addTrain(2);
        x.addTrain(4);
        Check.due("the fourth one", 3, x.addTrain(6));
        Check.refused(x, "a fifth one in a free block", STATE, () -> x.addTrain(1));
        x.takeTrain();
        Check.due("a fourth one again", 3, x.addTrain(1));
    }

    private static void addTrainToABlockThatIsNotFree() {
        Check.sentence("Promise 2", "Throws `IllegalStateException` if there are 4 trains, or the block is not free");
        BlockCoaster x = Rides.on("0b0b0b0b");
        x.set(1, 1);
        x.addTrain(0);
        Check.refused(x, "the same block", STATE, () -> x.addTrain(0));
        x.pass(1);
        Check.refused(x, "the block behind a released train", STATE, () -> x.addTrain(1));
        Check.refused(x, "the block that it leaves", STATE, () -> x.addTrain(0));
        x.pass(20);
        Check.due("it has left", 1, x.addTrain(0));
    }

    private static void addTrainNoBlockComesFirst() {
        Check.sentence("Promise 2, Terms", "If several exceptions apply, the one that is listed first is thrown.");
        BlockCoaster x = Rides.on("0b".repeat(4));
        for (int block = 0; block < 4; block++) {
            x.addTrain(block);
        }
        Check.refused(x, "4 trains, and no block 4", INDEX, () -> x.addTrain(4));
        Check.refused(x, "4 trains, and no block -1", INDEX, () -> x.addTrain(-1));
        Check.refused(x, "4 trains, and block 3 is not free", STATE, () -> x.addTrain(3));
    }

    private static void addTrainUndoable() {
        Check.sentence("Promise 2", "with 0 ticks of standing and the warmth of the air. Undoable.");
        BlockCoaster x = new BlockCoaster();
        x.addTrain(0);
        Check.due("one state was saved", 0, x.undo());
        Check.due("no train", 0, x.value(2));
        Check.due("the block is free", 0, x.addTrain(0));
    }

    private static void takeTrainWithoutOne() {
        Check.sentence("Promise 3", "Throws `IllegalStateException` if there is none");
        BlockCoaster x = new BlockCoaster();
        Check.refused(x, "a new coaster", STATE, x::takeTrain);
        x.addTrain(0);
        x.takeTrain();
        Check.refused(x, "the last one was taken", STATE, x::takeTrain);
        x.undo();
        Rides.write(x, "0b0b0b0b");
        x.parse();
        Check.refused(x, "a new track", STATE, x::takeTrain);
    }

    private static void takeTrainWithTheGreatestNumber() {
        Check.sentence("Promise 3", "Takes the train with the greatest number off the track.");
        BlockCoaster x = Rides.on("0b".repeat(8));
        x.addTrain(6);
        x.addTrain(0);
        x.addTrain(2);
        x.takeTrain();
        Check.due("block 2", -1, x.block(2, 3));
        Check.due("cell 2", -1, x.cell(2, 3));
        Check.due("block 0", 1, x.block(0, 3));
        Check.due("block 6", 0, x.block(6, 3));
        Check.refused(x, "train 2", INDEX, () -> x.train(2, 0));
        Check.due("train 1", 0, x.train(1, 0));
    }

    private static void takeTrainLeaves() {
        Check.sentence("Promise 3", "Returns the number of trains that are left.");
        BlockCoaster x = Rides.on("0b".repeat(8));
        for (int block = 0; block < 4; block++) {
            x.addTrain(2 * block);
        }
        for (int left = 3; left >= 0; left--) {
            Check.due("left", left, x.takeTrain());
            Check.due("trains", left, x.value(2));
        }
    }

    private static void takeTrainKeepsDispatches() {
        Check.sentence("Promise 3", "(Its dispatches stay.)");
        BlockCoaster x = Rides.on("0b0b0b0b");
        x.addTrain(2);
        x.addTrain(0);
        x.pass(5);
        x.takeTrain();
        Check.due("dispatches", "1 4", x.value(8) + " " + x.value(9));
        Check.due("in the log", "4 1", x.dispatch(0, 0) + " " + x.dispatch(0, 1));
        x.takeTrain();
        Check.due("without any train", "4 1", x.dispatch(0, 0) + " " + x.dispatch(0, 1));
        x.set(1, 1);
        x.set(2, 100);
        x.addTrain(0);
        Check.due("the gap goes on from its dispatch", 4, x.why(0));
    }

    private static void takeTrainUndoable() {
        Check.sentence("Promise 3", "(Its dispatches stay.) Undoable.");
        BlockCoaster x = Rides.on("0b0b0b0b");
        x.addTrain(2);
        x.pass(30);
        String before = Rides.train(x, 0);
        x.takeTrain();
        Check.due("saved states", 3, x.undo());
        Check.due("the train", before, Rides.train(x, 0));
    }

    private static void rescueNoTrain() {
        Check.sentence("Promise 4", "Throws `IndexOutOfBoundsException` if there is no such train");
        BlockCoaster x = lying();
        for (int wrong : new int[] {-1, 1, 4, MIN, MAX}) {
            Check.refused(x, "rescue(" + wrong + ")", INDEX, () -> x.rescue(wrong));
        }
        x.takeTrain();
        Check.refused(x, "rescue(0) without a train", INDEX, () -> x.rescue(0));
    }

    private static void rescueNotInAValley() {
        Check.sentence("Promise 4", "Throws `IllegalStateException` if it does not lie in a valley");
        BlockCoaster x = Rides.on("0b0.9.0b");
        x.set(1, 1);
        x.addTrain(0);
        Check.refused(x, "it stands", STATE, () -> x.rescue(0));
        x.pass(1);
        Check.refused(x, "it runs on the brake cell", STATE, () -> x.rescue(0));
        x.pass(44);
        Check.due("the last tick before it lies", "1 1 18 96 20 0 0 7 1 0 0", Rides.train(x, 0));
        Check.refused(x, "it runs", STATE, () -> x.rescue(0));
        x.pass(1);
        Check.due("it lies", 1, x.rescue(0));
        Check.refused(x, "it was rescued", STATE, () -> x.rescue(0));
    }

    /** Lies on cell 1, warmer than the air, one cell moved. */
    private static BlockCoaster lying() {
        BlockCoaster x = Rides.on("0b0.9.0b");
        Rides.set(x, 3, 1, 0, 20);
        x.addTrain(0);
        x.pass(46);
        x.set(3, 10);
        x.pass(4);
        return x;
    }

    private static void rescueToTheBrake() {
        Check.sentence("Promise 4", "it stands at the brake of its block, with 0 ticks of standing.");
        BlockCoaster x = lying();
        Check.due("it lies", "1 1 0 0 16 2 0 7 1 0 1", Rides.train(x, 0));
        x.rescue(0);
        Check.due("it stands", "3 1 0 0 16 1 0 7 1 0 5", Rides.train(x, 0));
        Check.due("on the brake cell", "-1 0", x.cell(1, 3) + " " + x.cell(3, 3));
    }

    private static void rescueAcrossTheEnd() {
        Check.sentence("Promise 4", "it stands at the brake of its block, with 0 ticks of standing.");
        BlockCoaster x = Rides.on("9.0b0b0.");
        x.addTrain(1);
        x.pass(100);
        Check.due("it lies on the last cell", "3 0 2", x.train(0, 0) + " " + x.train(0, 1) + " " + x.train(0, 5));
        Check.due("the last cell", 3, x.rescue(0));
        Check.due("it stands at the station", "1 0 0 0 20 1 0 7 1 0 3", Rides.train(x, 0));
    }

    private static void rescueOnTheBrakeCell() {
        Check.sentence("Promise 4", "it stands at the brake of its block, with 0 ticks of standing.");
        BlockCoaster x = Rides.on("0b9.0b0.");
        x.addTrain(0);
        x.pass(25);
        Check.due("it lies where it was released", "0 0 0 0 20 2 0 7 0 0 1", Rides.train(x, 0));
        Check.due("that cell", 0, x.rescue(0));
        Check.due("it stands there again", "0 0 0 0 20 1 0 7 0 0 3", Rides.train(x, 0));
        Check.due("and is dispatched again", 1, x.pass(5));
    }

    private static void rescueAnswersTheCell() {
        Check.sentence("Promise 4", "Returns the cell on which it lay.");
        BlockCoaster x = Rides.on("0b0.0.0.9.0b");
        x.set(1, 1);
        x.addTrain(0);
        x.pass(200);
        Check.due("not the brake cell", 3, x.rescue(0));
    }

    private static void rescueUndoable() {
        Check.sentence("Promise 4", "with 0 ticks of standing. Undoable.");
        BlockCoaster x = lying();
        x.rescue(0);
        Check.due("saved states", 3, x.undo());
        Check.due("it lies again", "1 1 0 0 16 2 0 7 1 0 1", Rides.train(x, 0));
    }

    private static void frictionRange() {
        Check.sentence("Promise 5, Terms", "Numbers that are set: the friction, 0 to 20, initially 3");
        range(0, 0, 20, 3);
    }

    private static void dwellRange() {
        Check.sentence("Promise 5, Terms", "the dwell at the station, 1 to 50 ticks, initially 5");
        range(1, 1, 50, 5);
    }

    private static void gapRange() {
        Check.sentence("Promise 5, Terms", "the gap, 0 to 500 ticks, initially 0");
        range(2, 0, 500, 0);
    }

    private static void airRange() {
        Check.sentence("Promise 5, Terms", "the air, 0 to 40, initially 20");
        range(3, 0, 40, 20);
    }

    private static void range(int what, int least, int greatest, int first) {
        BlockCoaster x = new BlockCoaster();
        String before = Rides.values(x);
        Check.due("initially", first, x.value(4 + what));
        for (int wrong : new int[] {least - 1, greatest + 1, MIN, MAX}) {
            Check.refused(x, "set(" + what + ", " + wrong + ")", ARGUMENT, () -> x.set(what, wrong));
        }
        Check.sentence("Promise 5", "- `value`: from the range of that number");
        x.set(what, least);
        Check.due("the least", least, x.value(4 + what));
        x.set(what, greatest);
        Check.due("the greatest", greatest, x.value(4 + what));
        x.set(what, first);
        Check.due("no other number", before, Rides.values(x));
    }

    private static void setWhatRange() {
        Check.sentence("Promise 5", "Throws `IndexOutOfBoundsException` if what is out of range");
        BlockCoaster x = new BlockCoaster();
        for (int what : new int[] {-1, 4, MIN, MAX}) {
            Check.refused(x, "set(" + what + ", 1)", INDEX, () -> x.set(what, 1));
        }
        Check.sentence("Promise 5", "- `what`: 0 the friction, 1 the dwell, 2 the gap, 3 the air");
        x.set(0, 7);
        x.set(3, 8);
        Check.due("the least what and the greatest", "14 4 0 0 7 5 0 8 0 -1 0 7", Rides.values(x));
    }

    private static void setWhatComesFirst() {
        Check.sentence("Promise 5, Terms", "If several exceptions apply, the one that is listed first is thrown.");
        BlockCoaster x = new BlockCoaster();
        for (int value : new int[] {-1, 501, MIN, MAX}) {
            Check.refused(x, "set(-1, " + value + ")", INDEX, () -> x.set(-1, value));
            Check.refused(x, "set(4, " + value + ")", INDEX, () -> x.set(4, value));
        }
    }

    private static void setAnswersThePrevious() {
        Check.sentence("Promise 5", "Returns the previous value.");
        BlockCoaster x = new BlockCoaster();
        int[] first = {3, 5, 0, 20};
        for (int what = 0; what < 4; what++) {
            Check.due("the first value", first[what], x.set(what, 11));
            Check.due("the one that was set", 11, x.set(what, 12));
            Check.due("the same one again", 12, x.set(what, 12));
        }
    }

    private static void setUndoable() {
        Check.sentence("Promise 5", "Sets one of the numbers that are set. Undoable.");
        int[] first = {3, 5, 0, 20};
        for (int what = 0; what < 4; what++) {
            BlockCoaster x = new BlockCoaster();
            x.set(what, 11);
            Check.due("saved states", 0, x.undo());
            Check.due("the number " + what, first[what], x.value(4 + what));
        }
    }

    private static void setHeightNoCell() {
        Check.sentence("Promise 6", "Throws `IndexOutOfBoundsException` if there is no such cell");
        for (int cells : new int[] {4, 14, 30}) {
            BlockCoaster x = Rides.on("0b0b" + "1.".repeat(cells - 2));
            for (int wrong : new int[] {-1, cells, cells + 1, MIN, MAX}) {
                Check.refused(x, "setHeight(" + wrong + ", 5) of " + cells, INDEX, () -> x.setHeight(wrong, 5));
            }
        }
    }

    private static void setHeightOfTheOutermostCells() {
        Check.sentence("Promise 6", "- `cell`: number of a cell");
        for (int cells : new int[] {4, 14, 30}) {
            BlockCoaster x = Rides.on("0b0b" + "1.".repeat(cells - 2));
            x.setHeight(0, 5);
            x.setHeight(cells - 1, 6);
            Check.due("the first cell", 5, x.cell(0, 0));
            Check.due("the last cell", 6, x.cell(cells - 1, 0));
            Check.due("the second cell", 0, x.cell(1, 0));
            Check.due("the last but one", 1, x.cell(cells - 2, 0));
        }
    }

    private static void setHeightRange() {
        Check.sentence("Promise 6", "Throws `IllegalArgumentException` if height is out of range");
        BlockCoaster x = new BlockCoaster();
        for (int wrong : new int[] {-1, 10, MIN, MAX}) {
            Check.refused(x, "setHeight(3, " + wrong + ")", ARGUMENT, () -> x.setHeight(3, wrong));
        }
        Check.sentence("Promise 6", "- `height`: 0 to 9");
        x.setHeight(3, 0);
        Check.due("the least", 0, x.cell(3, 0));
        x.setHeight(3, 9);
        Check.due("the greatest", 9, x.cell(3, 0));
        Check.due("its kind stays", 1, x.cell(3, 1));
    }

    private static void setHeightCellComesFirst() {
        Check.sentence("Promise 6, Terms", "If several exceptions apply, the one that is listed first is thrown.");
        BlockCoaster x = new BlockCoaster();
        for (int height : new int[] {-1, 10, MIN, MAX}) {
            Check.refused(x, "setHeight(-1, " + height + ")", INDEX, () -> x.setHeight(-1, height));
            Check.refused(x, "setHeight(14, " + height + ")", INDEX, () -> x.setHeight(14, height));
        }
    }

    private static void setHeightAnswersThePrevious() {
        Check.sentence("Promise 6", "Returns the previous height.");
        BlockCoaster x = new BlockCoaster();
        Check.due("that of the text", 7, x.setHeight(5, 0));
        Check.due("the one that was set", 0, x.setHeight(5, 9));
        Check.due("the same one again", 9, x.setHeight(5, 9));
        Check.due("of the last cell", 0, x.setHeight(13, 1));
        Check.due("of the first cell", 0, x.setHeight(0, 1));
    }

    private static void setHeightUndoable() {
        Check.sentence("Promise 6", "Sets the height of a cell. Undoable.");
        BlockCoaster x = new BlockCoaster();
        x.setHeight(4, 9);
        Check.due("highest", 9, x.value(11));
        Check.due("saved states", 0, x.undo());
        Check.due("highest", 7, x.value(11));
        Check.due("the height", 7, x.cell(4, 0));
    }
}
