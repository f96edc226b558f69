/** The edges of promises 8 to 13: train, cell, block, value, dispatch, why. */
public final class LookEdgesTest {
    private static final Class<IndexOutOfBoundsException> INDEX = IndexOutOfBoundsException.class;
    private static final Class<IllegalArgumentException> ARGUMENT = IllegalArgumentException.class;
    private static final int MIN = Integer.MIN_VALUE;
    private static final int MAX = Integer.MAX_VALUE;

    public static void main(String[] args) {
        trainNumber();
        trainWhat();
        trainNumberComesFirst();
        trainCondition();
        trainTicksOfStanding();
        trainCellsMoved();
        trainStationVisits();
        cellNumber();
        cellWhat();
        cellNumberComesFirst();
        cellKinds();
        cellTrain();
        blockNumber();
        blockWhat();
        blockNumberComesFirst();
        blockCells();
        blockTrain();
        blockHeldUp();
        blockHeldUpAtTheLast();
        blockHeldUpOnlyByMoving();
        blockNotHeldUp();
        valueWhat();
        valueTicks();
        valueDispatches();
        valueLatestDispatch();
        valueLying();
        valueHighest();
        dispatchIndex();
        dispatchWhat();
        dispatchIndexComesFirst();
        dispatchThirtyKept();
        dispatchTrain();
        whyNumber();
        whyRunsOrLies();
        whyNextBlock();
        whyDwell();
        whyGap();
        whyTheFirstOne();
        whyReleased();
        Check.finish("LookEdgesTest");
    }

    private static void trainNumber() {
        Check.sentence("Promise 8", "Throws `IndexOutOfBoundsException` if there is no such train");
        BlockCoaster x = Rides.on("0b".repeat(8));
        Check.refused(x, "train(0, 0) without a train", INDEX, () -> x.train(0, 0));
        for (int trains = 1; trains <= 4; trains++) {
            x.addTrain(2 * trains - 1);
            Check.due("the greatest number", 2 * trains - 1, x.train(trains - 1, 0));
            Check.due("the least number", 1, x.train(0, 0));
            for (int wrong : new int[] {-1, trains, MIN, MAX}) {
                Check.refused(x, "train(" + wrong + ", 0) of " + trains, INDEX, () -> x.train(wrong, 0));
            }
        }
    }

    private static void trainWhat() {
        Check.sentence("Promise 8", "Throws `IllegalArgumentException` if what is out of range");
        BlockCoaster x = new BlockCoaster();
        x.addTrain(2);
        for (int wrong : new int[] {-1, 10, MIN, MAX}) {
            Check.refused(x, "train(0, " + wrong + ")", ARGUMENT, () -> x.train(0, wrong));
        }
        Check.due("the least", 10, x.train(0, 0));
        Check.due("the greatest", 0, x.train(0, 9));
    }

    private static void trainNumberComesFirst() {
        Check.sentence("Promise 8, Terms", "If several exceptions apply, the one that is listed first is thrown.");
        BlockCoaster x = new BlockCoaster();
        x.addTrain(2);
        for (int what : new int[] {-1, 10, MIN, MAX}) {
            Check.refused(x, "train(1, " + what + ")", INDEX, () -> x.train(1, what));
            Check.refused(x, "train(-1, " + what + ")", INDEX, () -> x.train(-1, what));
        }
    }

    private static void trainCondition() {
        Check.sentence("Promise 8", "5 0 it runs, 1 stands, 2 lies in a valley");
        BlockCoaster x = Rides.on("0b9.0b0.");
        x.addTrain(0);
        Check.due("stands", 1, x.train(0, 5));
        x.pass(4);
        Check.due("stands", 1, x.train(0, 5));
        x.pass(1);
        Check.due("runs", 0, x.train(0, 5));
        x.pass(19);
        Check.due("runs", 0, x.train(0, 5));
        x.pass(1);
        Check.due("lies", 2, x.train(0, 5));
    }

    private static void trainTicksOfStanding() {
        Check.sentence("Promise 8", "6 its ticks of standing (0 if it does not stand)");
        BlockCoaster x = Rides.on("0b9.0b0.");
        x.addTrain(0);
        x.pass(4);
        Check.due("it stands", 4, x.train(0, 6));
        x.pass(1);
        Check.due("it runs", 0, x.train(0, 6));
        x.pass(20);
        Check.due("it lies", "2 0", x.train(0, 5) + " " + x.train(0, 6));
        x.pass(7);
        Check.due("for a while", 0, x.train(0, 6));
        x.rescue(0);
        Check.due("it stands again", "1 0", x.train(0, 5) + " " + x.train(0, 6));
        x.pass(1);
        Check.due("one tick", 1, x.train(0, 6));
    }

    private static void trainCellsMoved() {
        Check.sentence("Promise 8", "8 the cells that it has moved so far");
        Check.sentence("Promise 8", "(addTrain() and rescue() count for neither)");
        BlockCoaster x = Rides.on("0b0.9.0b");
        x.set(1, 1);
        x.addTrain(0);
        Check.due("at first", 0, x.train(0, 8));
        x.pass(21);
        Check.due("one", 1, x.train(0, 8));
        x.pass(25);
        Check.due("it lies, and has not moved", "2 1", x.train(0, 5) + " " + x.train(0, 8));
        x.rescue(0);
        Check.due("rescue() counts nothing", "3 1", x.train(0, 0) + " " + x.train(0, 8));
        x.pass(21);
        Check.due("across the end of the ring", "0 2", x.train(0, 0) + " " + x.train(0, 8));
        BlockCoaster y = Rides.on("0b0.0.0b");
        Rides.set(y, 19, 1, 0, 0);
        y.addTrain(0);
        y.pass(21);
        Check.due("into a valley", "2 1", y.train(0, 5) + " " + y.train(0, 8));
    }

    private static void trainStationVisits() {
        Check.sentence("Promise 8",
                "9 the times that it has moved to the station so far (addTrain() and rescue() count for neither)");
        BlockCoaster x = Rides.on("0b0b0b0.");
        x.set(1, 1);
        x.addTrain(0);
        Check.due("addTrain() counts nothing", 0, x.train(0, 9));
        x.pass(63 + 24);
        Check.due("ahead of the station", "3 96 0", x.train(0, 0) + " " + x.train(0, 3) + " " + x.train(0, 9));
        x.setHeight(0, 9);
        x.pass(1);
        Check.due("it lies ahead of the station", "2 0", x.train(0, 5) + " " + x.train(0, 9));
        x.rescue(0);
        Check.due("rescue() counts nothing", "0 0", x.train(0, 0) + " " + x.train(0, 9));
        x.setHeight(0, 0);
        x.pass(87);
        Check.due("one tick ahead of it", "3 96 0", x.train(0, 0) + " " + x.train(0, 3) + " " + x.train(0, 9));
        x.pass(1);
        Check.due("the first time", "0 1", x.train(0, 0) + " " + x.train(0, 9));
        x.pass(88);
        Check.due("the second time", "0 2", x.train(0, 0) + " " + x.train(0, 9));
    }

    private static void cellNumber() {
        Check.sentence("Promise 9", "Throws `IndexOutOfBoundsException` if there is no such cell");
        for (int cells : new int[] {4, 14, 30}) {
            BlockCoaster x = Rides.on("5b0b" + "1.".repeat(cells - 3) + "6.");
            for (int wrong : new int[] {-1, cells, cells + 1, MIN, MAX}) {
                Check.refused(x, "cell(" + wrong + ", 0) of " + cells, INDEX, () -> x.cell(wrong, 0));
            }
            Check.due("the least", 5, x.cell(0, 0));
            Check.due("the greatest", 6, x.cell(cells - 1, 0));
        }
    }

    private static void cellWhat() {
        Check.sentence("Promise 9", "Throws `IllegalArgumentException` if what is out of range");
        BlockCoaster x = Rides.on("5b0b1.6.");
        for (int wrong : new int[] {-1, 4, MIN, MAX}) {
            Check.refused(x, "cell(0, " + wrong + ")", ARGUMENT, () -> x.cell(0, wrong));
            Check.refused(x, "cell(3, " + wrong + ")", ARGUMENT, () -> x.cell(3, wrong));
        }
        Check.due("the least", 5, x.cell(0, 0));
        Check.due("the greatest", -1, x.cell(0, 3));
    }

    private static void cellNumberComesFirst() {
        Check.sentence("Promise 9, Terms", "If several exceptions apply, the one that is listed first is thrown.");
        BlockCoaster x = Rides.on("5b0b1.6.");
        for (int what : new int[] {-1, 4, MIN, MAX}) {
            Check.refused(x, "cell(-1, " + what + ")", INDEX, () -> x.cell(-1, what));
            Check.refused(x, "cell(4, " + what + ")", INDEX, () -> x.cell(4, what));
        }
    }

    private static void cellKinds() {
        Check.sentence("Promise 9", "1 its kind (0 neither, 1 a lift cell, 2 a brake cell)");
        BlockCoaster x = Rides.on("5.0l1b6b");
        Check.due("each kind", "0 1 2 2", x.cell(0, 1) + " " + x.cell(1, 1) + " " + x.cell(2, 1) + " " + x.cell(3, 1));
    }

    private static void cellTrain() {
        Check.sentence("Promise 9", "3 the train on it (NONE without one)");
        BlockCoaster x = Rides.on("0b0b0.0.");
        x.addTrain(1);
        x.addTrain(0);
        Check.due("each cell", "1 0 -1 -1", trainsOnCells(x));
        x.takeTrain();
        Check.due("one was taken", "-1 0 -1 -1", trainsOnCells(x));
        x.pass(20);
        Check.due("still there", "-1 0 -1 -1", trainsOnCells(x));
        x.pass(1);
        Check.due("one cell on", "-1 -1 0 -1", trainsOnCells(x));
        x.pass(25);
        Check.due("on the last cell", "-1 -1 -1 0", trainsOnCells(x));
        x.pass(34);
        Check.due("on the first cell", "0 -1 -1 -1", trainsOnCells(x));
        x.takeTrain();
        Check.due("no train", "-1 -1 -1 -1", trainsOnCells(x));
    }

    private static String trainsOnCells(BlockCoaster x) {
        return x.cell(0, 3) + " " + x.cell(1, 3) + " " + x.cell(2, 3) + " " + x.cell(3, 3);
    }

    private static void blockNumber() {
        Check.sentence("Promise 10", "Throws `IndexOutOfBoundsException` if there is no such block");
        for (int blocks : new int[] {2, 4, 8}) {
            BlockCoaster x = Rides.on("0.0." + "0b".repeat(blocks));
            for (int wrong : new int[] {-1, blocks, blocks + 1, MIN, MAX}) {
                Check.refused(x, "block(" + wrong + ", 1) of " + blocks, INDEX, () -> x.block(wrong, 1));
            }
            Check.due("the least", 2, x.block(0, 1));
            Check.due("the greatest", blocks + 1, x.block(blocks - 1, 1));
        }
    }

    private static void blockWhat() {
        Check.sentence("Promise 10", "Throws `IllegalArgumentException` if what is out of range");
        BlockCoaster x = Rides.on("0.0.0b0b");
        for (int wrong : new int[] {-1, 5, MIN, MAX}) {
            Check.refused(x, "block(0, " + wrong + ")", ARGUMENT, () -> x.block(0, wrong));
            Check.refused(x, "block(1, " + wrong + ")", ARGUMENT, () -> x.block(1, wrong));
        }
        Check.due("the least", 3, x.block(1, 0));
        Check.due("the greatest", 0, x.block(1, 4));
    }

    private static void blockNumberComesFirst() {
        Check.sentence("Promise 10, Terms", "If several exceptions apply, the one that is listed first is thrown.");
        BlockCoaster x = Rides.on("0.0.0b0b");
        for (int what : new int[] {-1, 5, MIN, MAX}) {
            Check.refused(x, "block(-1, " + what + ")", INDEX, () -> x.block(-1, what));
            Check.refused(x, "block(2, " + what + ")", INDEX, () -> x.block(2, what));
        }
    }

    private static void blockCells() {
        Check.sentence("Promise 10", "0 its first cell, 1 its brake cell, 2 the number of its cells");
        BlockCoaster x = Rides.on("0.0b0b0.");
        Check.due("across the end", "3 1 3", x.block(0, 0) + " " + x.block(0, 1) + " " + x.block(0, 2));
        Check.due("one cell", "2 2 1", x.block(1, 0) + " " + x.block(1, 1) + " " + x.block(1, 2));
        BlockCoaster y = Rides.on("0b0.0.0b");
        Check.due("cell 0 alone", "0 0 1", y.block(0, 0) + " " + y.block(0, 1) + " " + y.block(0, 2));
        Check.due("all others", "1 3 3", y.block(1, 0) + " " + y.block(1, 1) + " " + y.block(1, 2));
        BlockCoaster z = Rides.on("0.".repeat(28) + "0b0b");
        Check.due("from cell 0", "0 28 29", z.block(0, 0) + " " + z.block(0, 1) + " " + z.block(0, 2));
        Check.due("the last cell", "29 29 1", z.block(1, 0) + " " + z.block(1, 1) + " " + z.block(1, 2));
    }

    private static void blockTrain() {
        Check.sentence("Promise 10", "3 the train in it (NONE without one)");
        BlockCoaster x = Rides.on("0b0b0.0.");
        Check.due("none", "-1 -1", x.block(0, 3) + " " + x.block(1, 3));
        x.addTrain(1);
        Check.due("one", "-1 0", x.block(0, 3) + " " + x.block(1, 3));
        x.addTrain(0);
        Check.due("two", "1 0", x.block(0, 3) + " " + x.block(1, 3));
        x.takeTrain();
        x.pass(20);
        Check.due("it runs on its brake cell", "-1 0", x.block(0, 3) + " " + x.block(1, 3));
        x.pass(1);
        Check.due("it is in the next block", "0 -1", x.block(0, 3) + " " + x.block(1, 3));
    }

    private static String heldUp(BlockCoaster x) {
        StringBuilder all = new StringBuilder();
        for (int block = 0; block < x.value(1); block++) {
            all.append(block == 0 ? "" : " ").append(x.block(block, 4));
        }
        return all.toString();
    }

    private static void blockHeldUp() {
        Check.sentence("Promise 10",
                "4 how often a train has moved to its brake so far while the next block was not free");
        BlockCoaster x = Rides.on("0b0b0b0b");
        Rides.set(x, 3, 50, 0, 20);
        x.addTrain(0);
        x.addTrain(2);
        Check.due("addTrain() counts nothing", "0 0 0 0", heldUp(x));
        x.pass(20);
        Check.due("train 1 is not there", "0 0 0 0", heldUp(x));
        x.pass(1);
        Check.due("train 1 came to brake 3, and train 0 stands in block 0", "0 0 0 1", heldUp(x));
        x.pass(25);
        Check.due("waiting counts nothing", "0 0 0 1", heldUp(x));
        x.takeTrain();
        Check.due("it stays without the train", "0 0 0 1", heldUp(x));
        x.addTrain(2);
        x.pass(3);
        x.undo();
        x.pass(21);
        Check.due("a second time", "0 0 0 2", heldUp(x));
    }

    private static void blockHeldUpAtTheLast() {
        Check.sentence("Promise 10",
                "4 how often a train has moved to its brake so far while the next block was not free");
        BlockCoaster x = Rides.on("9b0b0b0b0.");
        Rides.set(x, 3, 1, 0, 20);
        x.addTrain(3);
        x.pass(46);
        Check.due("a train lies in block 0", "4 2 0", x.train(0, 0) + " " + x.train(0, 5) + " " + x.train(0, 1));
        x.addTrain(2);
        x.pass(21);
        Check.due("behind the last block comes block 0", "0 0 0 1", heldUp(x));
        x.addTrain(1);
        x.pass(500);
        Check.due("and another one behind it", "0 0 1 1", heldUp(x));
    }

    private static void blockHeldUpOnlyByMoving() {
        Check.sentence("Promise 10",
                "4 how often a train has moved to its brake so far while the next block was not free");
        BlockCoaster x = Rides.on("0b9.0b0b0b");
        x.set(1, 1);
        x.addTrain(0);
        x.pass(21);
        x.addTrain(1);
        x.addTrain(3);
        Check.due("addTrain() behind a train counts nothing", "0 0 0 0", heldUp(x));
        x.rescue(0);
        Check.due("block 1 is not free", 2, x.why(0));
        Check.due("rescue() behind a train counts nothing", "0 0 0 0", heldUp(x));
        x.pass(1);
        Check.due("standing behind a train counts nothing", "0 0 0 0", heldUp(x));
    }

    private static void blockNotHeldUp() {
        Check.sentence("Promise 10",
                "4 how often a train has moved to its brake so far while the next block was not free");
        BlockCoaster x = Rides.on("0b0b0.0.");
        x.set(1, 1);
        x.addTrain(0);
        x.pass(21);
        Check.due("it came to brake 1 with nothing ahead", "1 0 0", x.train(0, 0) + " " + heldUp(x));
        x.pass(21 + 25 + 34);
        Check.due("and to the station", "0 0 0", x.train(0, 0) + " " + heldUp(x));
    }

    private static void valueWhat() {
        Check.sentence("Promise 11", "Throws `IllegalArgumentException` if what is out of range");
        BlockCoaster x = new BlockCoaster();
        for (int wrong : new int[] {-1, 12, MIN, MAX}) {
            Check.refused(x, "value(" + wrong + ")", ARGUMENT, () -> x.value(wrong));
        }
        Check.due("the least", 14, x.value(0));
        Check.due("the greatest", 7, x.value(11));
    }

    private static void valueTicks() {
        Check.sentence("Promise 11", "3 the ticks");
        BlockCoaster x = new BlockCoaster();
        Check.due("at first", 0, x.value(3));
        x.pass(1);
        Check.due("one", 1, x.value(3));
        x.ticksToStation(x.addTrain(0));
        x.ticksToValley();
        Check.due("questions pass none", 1, x.value(3));
    }

    private static void valueDispatches() {
        Check.sentence("Promise 11", "8 the dispatches so far");
        BlockCoaster x = Rides.on("0b0b0b0b");
        x.set(1, 1);
        Check.due("none", 0, x.value(8));
        x.addTrain(0);
        Check.due("none", 0, x.value(8));
        Rides.pass(x, 84 * 29 + 1);
        Check.due("30", 30, x.value(8));
        x.pass(83);
        Check.due("30", 30, x.value(8));
        x.pass(1);
        Check.due("more than are kept", 31, x.value(8));
    }

    private static void valueLatestDispatch() {
        Check.sentence("Promise 11", "9 the tick of the latest dispatch (NONE without one)");
        BlockCoaster x = Rides.on("0b0b0b0b");
        x.set(1, 1);
        x.addTrain(0);
        Check.due("none", -1, x.value(9));
        x.pass(1);
        Check.due("tick 0", 0, x.value(9));
        x.pass(83);
        Check.due("still the first one", 0, x.value(9));
        x.pass(1);
        Check.due("the next one", 84, x.value(9));
        Rides.pass(x, 84 * 28);
        Check.due("the 30th one", 84 * 29, x.value(9));
        x.pass(84);
        Check.due("the 31st one", 84 * 30, x.value(9));
        x.pass(84);
        Check.due("the 32nd one", 84 * 31, x.value(9));
        Rides.write(x, "0b0b0b0b");
        x.parse();
        Check.due("none on a new track", -1, x.value(9));
    }

    private static void valueLying() {
        Check.sentence("Promise 11", "10 the trains that lie in a valley");
        BlockCoaster x = Rides.on("0b9.".repeat(8));
        x.set(1, 1);
        Check.due("no train", 0, x.value(10));
        for (int train = 0; train < 4; train++) {
            x.addTrain(2 * train);
            x.pass(20);
            Check.due("it runs", train, x.value(10));
            x.pass(1);
            Check.due("it lies", train + 1, x.value(10));
        }
        x.rescue(2);
        Check.due("one was rescued", 3, x.value(10));
        x.takeTrain();
        Check.due("one was taken", 2, x.value(10));
    }

    private static void valueHighest() {
        Check.sentence("Promise 11", "11 the highest cell's height");
        BlockCoaster x = Rides.on("0b0b0.0.");
        Check.due("0 all over", 0, x.value(11));
        for (int cell = 0; cell < 4; cell++) {
            x.setHeight(cell, 9);
            Check.due("cell " + cell, 9, x.value(11));
            x.setHeight(cell, 1);
            Check.due("lower again", 1, x.value(11));
        }
        Rides.write(x, "0b0b" + "9.".repeat(28));
        x.parse();
        Rides.write(x, "0b0b0.3.");
        x.parse();
        Check.due("no cell of an earlier track", 3, x.value(11));
    }

    private static void dispatchIndex() {
        Check.sentence("Promise 12", "Throws `IndexOutOfBoundsException` if not so many are kept");
        BlockCoaster x = Rides.on("0b0b0b0b");
        x.set(1, 1);
        Check.refused(x, "dispatch(0, 0) without one", INDEX, () -> x.dispatch(0, 0));
        x.addTrain(0);
        x.pass(1);
        Check.due("the only one", 0, x.dispatch(0, 0));
        for (int wrong : new int[] {-1, 1, 29, 30, MIN, MAX}) {
            Check.refused(x, "dispatch(" + wrong + ", 0) of 1", INDEX, () -> x.dispatch(wrong, 0));
        }
        x.pass(84);
        Check.due("the first of two", 0, x.dispatch(1, 0));
        Check.refused(x, "dispatch(2, 0) of 2", INDEX, () -> x.dispatch(2, 0));
    }

    private static void dispatchWhat() {
        Check.sentence("Promise 12", "Throws `IllegalArgumentException` if what is out of range");
        BlockCoaster x = Rides.on("0b0b0b0b");
        x.addTrain(0);
        x.pass(5);
        for (int wrong : new int[] {-1, 2, MIN, MAX}) {
            Check.refused(x, "dispatch(0, " + wrong + ")", ARGUMENT, () -> x.dispatch(0, wrong));
        }
        Check.due("the least and the greatest", "4 0", x.dispatch(0, 0) + " " + x.dispatch(0, 1));
    }

    private static void dispatchIndexComesFirst() {
        Check.sentence("Promise 12, Terms", "If several exceptions apply, the one that is listed first is thrown.");
        BlockCoaster x = Rides.on("0b0b0b0b");
        for (int what : new int[] {-1, 2, MIN, MAX}) {
            Check.refused(x, "dispatch(0, " + what + ") without one", INDEX, () -> x.dispatch(0, what));
            Check.refused(x, "dispatch(-1, " + what + ")", INDEX, () -> x.dispatch(-1, what));
            Check.refused(x, "dispatch(30, " + what + ")", INDEX, () -> x.dispatch(30, what));
        }
    }

    private static void dispatchThirtyKept() {
        Check.sentence("Promise 12", "0 for the latest one, and so on; only the latest 30 are kept");
        for (int dispatches : new int[] {29, 30, 31, 32, 59, 60, 61}) {
            BlockCoaster x = Rides.on("0b0b0b0b");
            x.set(1, 1);
            x.addTrain(0);
            Rides.pass(x, 84 * (dispatches - 1) + 1);
            int kept = Math.min(30, dispatches);
            for (int index = 0; index < kept; index++) {
                Check.due("of " + dispatches + ", number " + index, 84 * (dispatches - 1 - index), x.dispatch(index, 0));
            }
            Check.refused(x, "of " + dispatches + ", number " + kept, INDEX, () -> x.dispatch(kept, 0));
        }
    }

    private static void dispatchTrain() {
        Check.sentence("Promise 12", "1 its train");
        BlockCoaster x = Rides.on("0b".repeat(8));
        x.set(1, 1);
        for (int train = 0; train < 4; train++) {
            x.addTrain(6 - 2 * train);
        }
        Rides.pass(x, 168 * 8 + 1);
        Check.due("in 168 ticks each is dispatched once", 33, x.value(8));
        for (int index = 0; index < 30; index++) {
            // Train 3 was the first, then came train 0; the latest one is train 3 again.
            Check.due("number " + index, (33 - index + 2) % 4, x.dispatch(index, 1));
        }
    }

    private static void whyNumber() {
        Check.sentence("Promise 13", "Throws `IndexOutOfBoundsException` if there is no such train");
        BlockCoaster x = Rides.on("0b".repeat(8));
        Check.refused(x, "why(0) without a train", INDEX, () -> x.why(0));
        for (int trains = 1; trains <= 4; trains++) {
            x.addTrain(2 * trains - 1);
            Check.due("the greatest number", 5, x.why(trains - 1));
            for (int wrong : new int[] {-1, trains, MIN, MAX}) {
                Check.refused(x, "why(" + wrong + ") of " + trains, INDEX, () -> x.why(wrong));
            }
        }
    }

    private static void whyRunsOrLies() {
        Check.sentence("Promise 13", "Returns 0 it runs, 1 it lies in a valley");
        BlockCoaster x = Rides.on("0b9.0b0.");
        Rides.set(x, 3, 1, 500, 20);
        x.addTrain(0);
        x.pass(1);
        Check.due("it runs, and the latest dispatch was no gap ago", 0, x.why(0));
        x.pass(20);
        Check.due("it lies", 1, x.why(0));
        x.addTrain(1);
        Check.due("it lies, and the next block is not free", 1, x.why(0));
        BlockCoaster y = Rides.on("0b0.0b0.");
        y.set(1, 1);
        y.addTrain(0);
        y.pass(21);
        y.addTrain(0);
        Check.due("it runs, and the next block is not free", 0, y.why(0));
    }

    private static void whyNextBlock() {
        Check.sentence("Promise 13", "2 it stands and the next block is not free");
        BlockCoaster x = Rides.on("0b0b0b0b");
        x.addTrain(3);
        Check.due("block 0 is free", 5, x.why(0));
        x.addTrain(0);
        Check.due("block 0, behind the last one, is not free", 2, x.why(0));
        x.pass(5);
        Check.due("its train runs in it", 2, x.why(0));
        x.pass(20);
        Check.due("its train has left", "1 5", x.train(1, 0) + " " + x.why(0));
    }

    private static void whyDwell() {
        Check.sentence("Promise 13",
                "3 it stands at the station and has not stood for the dwell (the next tick counted)");
        for (int dwell : new int[] {1, 2, 50}) {
            BlockCoaster x = Rides.on("0b0b0b0b");
            x.set(1, dwell);
            x.addTrain(0);
            for (int stood = 0; stood < dwell - 1; stood++) {
                Check.due("stood " + stood + " of " + dwell, 3, x.why(0));
                x.pass(1);
            }
            Check.due("the next tick is the last one of " + dwell, 5, x.why(0));
            Check.due("and it goes", 1, x.pass(1));
        }
        BlockCoaster x = Rides.on("0b0b0b0b");
        x.set(1, 50);
        x.addTrain(3);
        Check.due("not at another brake", 5, x.why(0));
    }

    private static void whyGap() {
        Check.sentence("Promise 13", "4 likewise, but for the gap");
        BlockCoaster x = Rides.on("0b0b0b0b");
        Rides.set(x, 3, 1, 500, 20);
        x.addTrain(0);
        Check.due("without a dispatch", 5, x.why(0));
        x.pass(84);
        Check.due("84 ticks ago", 4, x.why(0));
        x.set(2, 84);
        Check.due("at least 84", 5, x.why(0));
        x.set(2, 85);
        Check.due("not yet 85", 4, x.why(0));
        x.set(2, 500);
        x.pass(415);
        Check.due("499 ticks ago", 4, x.why(0));
        x.pass(1);
        Check.due("500 ticks ago", 5, x.why(0));
        Check.due("and it goes", 1, x.pass(1));
        x.pass(20);
        Check.due("not at another brake", "1 5", x.train(0, 0) + " " + x.why(0));
    }

    private static void whyTheFirstOne() {
        Check.sentence("Promise 13", "of several the first one.");
        BlockCoaster x = Rides.on("0b0b0b0b");
        Rides.set(x, 3, 1, 500, 20);
        x.addTrain(0);
        x.pass(84);
        x.set(1, 50);
        x.addTrain(1);
        Check.due("not free, dwell and gap", 2, x.why(0));
        x.takeTrain();
        Check.due("dwell and gap", 3, x.why(0));
        x.addTrain(1);
        x.set(2, 0);
        Check.due("not free and dwell", 2, x.why(0));
        x.set(1, 1);
        x.set(2, 500);
        Check.due("not free and gap", 2, x.why(0));
        x.takeTrain();
        Check.due("gap", 4, x.why(0));
    }

    private static void whyReleased() {
        Check.sentence("Promise 13", "5 it would be released");
        BlockCoaster x = Rides.on("0b0b0b0b");
        x.addTrain(1);
        Check.due("at another brake", 5, x.why(0));
        x.pass(1);
        Check.due("it was", "1 25 0", x.train(0, 0) + " " + x.train(0, 2) + " " + x.why(0));
    }
}
