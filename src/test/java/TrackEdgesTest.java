/** The edges of the track, its trains and its blocks: 'What it is', 'Terms', and promise 1. */
public final class TrackEdgesTest {
    private static final Class<IndexOutOfBoundsException> INDEX = IndexOutOfBoundsException.class;
    private static final Class<IllegalStateException> STATE = IllegalStateException.class;

    public static void main(String[] args) {
        rootIsRoundedDown();
        rootOfGreatSquares();
        dividedByTenRoundedDown();
        lastCall();
        fourCells();
        thirtyCells();
        behindTheLastCellComesCell0();
        behindTheLastCellWithoutABrake();
        heights();
        twoBrakeCells();
        eightBrakeCells();
        blocksInOrder();
        blockAcrossTheEnd();
        stationIsTheBrakeOfBlock0();
        firstTrack();
        fourTrains();
        rangesOfATrain();
        blockOfATrain();
        freeWithoutATrain();
        freeBehindAReleasedTrain();
        freeAcrossTheEnd();
        noTwoTrainsInABlock();
        newObject();
        Check.finish("TrackEdgesTest");
    }

    /** On cell 1 with the square 25 + 100 * height - friction - (60 - air) / 10, the wheels as warm as the air. */
    private static BlockCoaster onCell1(int height, int friction, int air) {
        BlockCoaster x = Rides.on(height + "b0.0.0b");
        Rides.set(x, friction, 1, 0, air);
        x.addTrain(0);
        x.pass(21);
        return x;
    }

    private static void rootIsRoundedDown() {
        Check.sentence("What it is", "root(n) is the greatest whole number whose square is at most n.");
        int[][] all = {
            // height, friction, air, square, root
            {9, 20, 0, 899, 29}, {9, 19, 0, 900, 30}, {9, 18, 0, 901, 30},
            {4, 20, 0, 399, 19}, {4, 19, 0, 400, 20}, {1, 20, 0, 99, 9}, {1, 19, 0, 100, 10},
            {1, 3, 40, 120, 10}, {1, 2, 40, 121, 11}, {0, 8, 40, 15, 3}, {0, 7, 40, 16, 4}, {0, 6, 40, 17, 4},
            {0, 16, 0, 3, 1}, {0, 15, 0, 4, 2}, {0, 18, 0, 1, 1}, {0, 17, 0, 2, 1},
        };
        for (int[] one : all) {
            BlockCoaster x = onCell1(one[0], one[1], one[2]);
            Check.due("the square", "1 " + one[3] + " 0", x.train(0, 0) + " " + x.train(0, 2) + " " + x.train(0, 3));
            x.pass(1);
            Check.due("the speed of " + one[3], one[4], x.train(0, 3));
        }
    }

    private static void rootOfGreatSquares() {
        Check.sentence("What it is", "root(n) is the greatest whole number whose square is at most n.");
        int[][] all = {{9999, 99}, {9998, 99}, {9801, 99}, {9800, 98}, {6400, 80}, {6399, 79}, {4096, 64}, {4095, 63},
            {1024, 32}, {1023, 31}};
        for (int[] one : all) {
            Drive drive = Drive.at(one[0]);
            Check.due("the square", one[0], drive.square());
            int before = drive.progress();
            int cell = drive.x.train(0, 0);
            drive.x.pass(1);
            int gone = drive.progress() - before + 100 * (drive.x.train(0, 0) - cell);
            Check.due("the speed of " + one[0], one[1], gone);
        }
    }

    private static void dividedByTenRoundedDown() {
        Check.sentence("What it is", "a / b means division rounded down; all divided numbers are 0 or more.");
        // With an air of 40 the wheels get warmer by speed / 10, and by 1 more.
        int[][] all = {
            // height, friction, speed, and speed / 10
            {1, 20, 9, 0}, {1, 19, 10, 1}, {4, 20, 19, 1}, {4, 19, 20, 2}, {9, 20, 29, 2}, {9, 19, 30, 3}, {0, 18, 1, 0},
        };
        for (int[] one : all) {
            BlockCoaster x = onCell1(one[0], one[1], 0);
            int warmth = x.train(0, 4);
            x.set(3, 40);
            x.pass(1);
            Check.due("the speed", one[2], x.train(0, 3));
            Check.due("warmer with the speed " + one[2], one[3] + 1, x.train(0, 4) - warmth);
        }
        // (60 - warmth) / 10 with the warmth of the air
        int[][] drags = {{0, 6}, {1, 5}, {10, 5}, {11, 4}, {20, 4}, {21, 3}, {30, 3}, {31, 2}, {40, 2}};
        for (int[] one : drags) {
            BlockCoaster x = new BlockCoaster();
            Rides.set(x, 0, 1, 0, one[0]);
            x.addTrain(0);
            Check.due("the drag at " + one[0], one[1], x.train(0, 7));
        }
    }

    private static void lastCall() {
        Check.sentence("What it is", "An object is used for at most 512 calls after it has been made");
        BlockCoaster x = Rides.on("0b0b0b0b");
        x.set(1, 1);
        x.addTrain(0);
        // The text takes 10 calls, and so these are calls 13 to 510.
        for (int call = 13; call <= 510; call++) {
            x.pass(1);
        }
        Check.due("call 511, the ticks", 498, x.value(3));
        Check.due("call 512, undo", 3, x.undo());
    }

    private static void fourCells() {
        Check.sentence("Promise 22, Terms", "The track is a ring of 4 to 30 cells, numbered from 0");
        BlockCoaster x = Rides.on("0b1b2.3l");
        Check.due("cells", 4, x.value(0));
        Check.due("the first cell", "0 2 0 -1", Rides.cell(x, 0));
        Check.due("the last cell", "3 1 0 -1", Rides.cell(x, 3));
        Check.refused(x, "cell(4, 0)", INDEX, () -> x.cell(4, 0));
        Check.refused(x, "cell(-1, 0)", INDEX, () -> x.cell(-1, 0));
        Rides.write(x, "0b1b2.");
        Check.due("three cells", -16, x.parse());
        Check.due("still four", 4, x.value(0));
    }

    private static void thirtyCells() {
        Check.sentence("Promise 22, Terms", "The track is a ring of 4 to 30 cells, numbered from 0");
        BlockCoaster x = Rides.on("0b1b" + "2.".repeat(27) + "3l");
        Check.due("cells", 30, x.value(0));
        Check.due("the first cell", "0 2 0 -1", Rides.cell(x, 0));
        Check.due("the last cell", "3 1 0 -1", Rides.cell(x, 29));
        Check.refused(x, "cell(30, 0)", INDEX, () -> x.cell(30, 0));
        Rides.write(x, "0b1b" + "4.".repeat(29));
        Check.due("31 cells", -70, x.parse());
        Check.due("still the 30", 2, x.cell(28, 0));
    }

    private static void behindTheLastCellComesCell0() {
        Check.sentence("Promise 7, Terms", "behind the last cell comes cell 0.");
        BlockCoaster x = Rides.on("0b0.0.0b");
        x.addTrain(1);
        x.pass(20);
        Check.due("on the last cell", 3, x.train(0, 0));
        x.pass(1);
        Check.due("on cell 0", "0 0 0 0 20 1 0 7 1 1 3", Rides.train(x, 0));
        BlockCoaster y = Rides.on("0b" + "0l".repeat(28) + "0b");
        y.addTrain(1);
        y.pass(20);
        Check.due("on the last of 30 cells", 29, y.train(0, 0));
        y.pass(1);
        Check.due("on cell 0", 0, y.train(0, 0));
    }

    private static void behindTheLastCellWithoutABrake() {
        Check.sentence("Promise 7, Terms", "behind the last cell comes cell 0.");
        BlockCoaster x = Rides.on("5.4b0b5l");
        x.addTrain(1);
        x.pass(21);
        Check.due("on the last cell, a lift", "3 0 25 0 20 0 0 7 1 0 0", Rides.train(x, 0));
        x.pass(20);
        Check.due("on cell 0, at the same height", "0 0 18 0 20 0 0 7 2 0 0", Rides.train(x, 0));
        x.pass(24);
        Check.due("speed 4", "0 0 18 96 20 0 0 7 2 0 0", Rides.train(x, 0));
        x.pass(1);
        Check.due("on to the first brake cell", "1 0 0 0 20 1 0 7 3 1 3", Rides.train(x, 0));
    }

    private static void heights() {
        Check.sentence("Promise 22, Terms", "A cell has a height, 0 to 9");
        BlockCoaster x = Rides.on("0b9b9.0l");
        Check.due("0", "0 2 0 -1", Rides.cell(x, 0));
        Check.due("9", "9 2 1 -1", Rides.cell(x, 1));
        Check.due("9", "9 0 0 -1", Rides.cell(x, 2));
        Check.due("0", "0 1 0 -1", Rides.cell(x, 3));
        Rides.write(x, "0b9b9./l");
        Check.due("the sign ahead of 0", -16, x.parse());
        Rides.write(x, "0b9b:.0l");
        Check.due("the sign behind 9", -14, x.parse());
    }

    private static void twoBrakeCells() {
        Check.sentence("Promise 22, Terms", "There are 2 to 8 brake cells.");
        BlockCoaster x = Rides.on("0.0b0.0b");
        Check.due("blocks", 2, x.value(1));
        Check.due("block 0", "0 1 2 -1 0", Rides.block(x, 0));
        Check.due("block 1", "2 3 2 -1 0", Rides.block(x, 1));
        Check.refused(x, "block(2, 0)", INDEX, () -> x.block(2, 0));
        Rides.write(x, "0.0b0.0.");
        Check.due("one brake cell", -18, x.parse());
        Rides.write(x, "0.0l0.0.");
        Check.due("no brake cell", -18, x.parse());
        Check.due("still two", 2, x.value(1));
    }

    private static void eightBrakeCells() {
        Check.sentence("Promise 22, Terms", "There are 2 to 8 brake cells.");
        BlockCoaster x = Rides.on("0b".repeat(8) + "0.0.");
        Check.due("blocks", 8, x.value(1));
        Check.due("block 0", "8 0 3 -1 0", Rides.block(x, 0));
        Check.due("block 7", "7 7 1 -1 0", Rides.block(x, 7));
        Check.refused(x, "block(8, 0)", INDEX, () -> x.block(8, 0));
        Rides.write(x, "0b".repeat(8) + "0.0b");
        Check.due("nine brake cells", -29, x.parse());
        Check.due("still eight", 8, x.value(1));
    }

    private static void blocksInOrder() {
        Check.sentence("Promise 10, Terms",
                "block 0 ends at the brake cell with the lowest number, block 1 at the next one, and so on");
        BlockCoaster x = Rides.on("0.0.0b0.0b0b0.0b");
        Check.due("block 0", "0 2 3 -1 0", Rides.block(x, 0));
        Check.due("block 1", "3 4 2 -1 0", Rides.block(x, 1));
        Check.due("block 2", "5 5 1 -1 0", Rides.block(x, 2));
        Check.due("block 3", "6 7 2 -1 0", Rides.block(x, 3));
        int[] blocks = {0, 0, 0, 1, 1, 2, 3, 3};
        for (int cell = 0; cell < 8; cell++) {
            Check.due("the block of cell " + cell, blocks[cell], x.cell(cell, 2));
        }
    }

    private static void blockAcrossTheEnd() {
        Check.sentence("Promise 10, Terms",
                "the block that ends at the first brake cell begins behind the last one, across the end of the ring");
        BlockCoaster x = Rides.on("0.0b0b0.");
        Check.due("on both sides of the end", "3 1 3 -1 0", Rides.block(x, 0));
        Check.due("the last cell is in block 0", 0, x.cell(3, 2));
        Check.due("the first cell is in block 0", 0, x.cell(0, 2));
        BlockCoaster y = Rides.on("0.0.0b0b");
        Check.due("the last cell is a brake cell", "0 2 3 -1 0", Rides.block(y, 0));
        Check.due("the last cell is in block 1", 1, y.cell(3, 2));
        BlockCoaster z = Rides.on("0b0.0.0b");
        Check.due("the one cell behind the last", "0 0 1 -1 0", Rides.block(z, 0));
        BlockCoaster w = Rides.on("0b0b" + "0.".repeat(28));
        Check.due("the longest block", "2 0 29 -1 0", Rides.block(w, 0));
        Check.due("the shortest block", "1 1 1 -1 0", Rides.block(w, 1));
        Check.due("the last of 30 cells", 0, w.cell(29, 2));
    }

    private static void stationIsTheBrakeOfBlock0() {
        Check.sentence("Promise 7, Terms", "The station is the brake cell of block 0.");
        BlockCoaster x = Rides.on("0.0.0b0b");
        x.set(1, 50);
        x.addTrain(1);
        Check.due("the last brake has no dwell", 5, x.why(0));
        Check.due("and no dispatch", 0, x.pass(1));
        Check.due("it runs", 0, x.train(0, 5));
        x.takeTrain();
        x.addTrain(0);
        Check.due("the first one has", 3, x.why(0));
        Check.due("a dispatch", 1, x.pass(50));
    }

    private static void firstTrack() {
        Check.sentence("Promise 1, Terms",
                "The first track is \"0b1l3l5l7l7b4.1.3.2.4b2.1.0b\", as told for texts below.");
        int[] heights = {0, 1, 3, 5, 7, 7, 4, 1, 3, 2, 4, 2, 1, 0};
        int[] kinds = {2, 1, 1, 1, 1, 2, 0, 0, 0, 0, 2, 0, 0, 2};
        int[] blocks = {0, 1, 1, 1, 1, 1, 2, 2, 2, 2, 2, 3, 3, 3};
        BlockCoaster x = new BlockCoaster();
        Check.due("cells", 14, x.value(0));
        for (int cell = 0; cell < 14; cell++) {
            Check.due("cell " + cell, heights[cell] + " " + kinds[cell] + " " + blocks[cell] + " -1", Rides.cell(x, cell));
        }
        Check.refused(x, "a cell behind the last one", INDEX, () -> x.cell(14, 0));
        Check.refused(x, "a block behind the last one", INDEX, () -> x.block(4, 0));
        long fresh = x.digest();
        Rides.write(x, "0b1l3l5l7l7b4.1.3.2.4b2.1.0b");
        x.parse();
        x.clearText();
        x.undo();
        Check.due("the text's track is the same one", fresh, x.digest());
    }

    private static void fourTrains() {
        Check.sentence("Promise 2, Terms", "There are at most 4 trains, numbered from 0.");
        BlockCoaster x = Rides.on("0b".repeat(8));
        Check.refused(x, "train(0, 0) without a train", INDEX, () -> x.train(0, 0));
        for (int train = 0; train < 4; train++) {
            Check.due("the number", train, x.addTrain(2 * train));
            Check.due("its cell", 2 * train, x.train(train, 0));
        }
        Check.refused(x, "a fifth train", STATE, () -> x.addTrain(1));
        Check.refused(x, "train(4, 0)", INDEX, () -> x.train(4, 0));
        Check.due("trains", 4, x.value(2));
    }

    private static void rangesOfATrain() {
        Check.sentence("Promise 8, Terms", "it has a square, 0 to 9999 (its speed is root(square)), a progress, 0 to 99,"
                + " a warmth of its wheels, 0 to 100");
        BlockCoaster x = Rides.on("0b0b0b0b");
        x.set(3, 0);
        x.addTrain(0);
        Check.due("the least of all three", "0 0 0 0 0 1 0 9 0 0 3", Rides.train(x, 0));
        x.pass(5 + 19);
        Check.due("a progress of 95", "0 0 25 95 0 0 0 9 0 0 0", Rides.train(x, 0));
        x.pass(1);
        Check.due("100 is the next cell", "1 1 0 0 0 1 0 9 1 0 5", Rides.train(x, 0));
        Drive drive = Drive.at(9999);
        for (int moves = 0; moves < 6; moves++) {
            drive.move(9, 0);
            Check.due("a square of 9999 stays", 9999, drive.square());
            Check.due("the progress is below 100", true, drive.progress() < 100);
        }
        Check.due("99 warm", 99, drive.warmth());
    }

    private static void blockOfATrain() {
        Check.sentence("Promise 8, Terms", "Its block is that of its cell.");
        BlockCoaster x = Rides.on("0b0.9.0b");
        x.set(1, 1);
        x.addTrain(0);
        x.pass(20);
        Check.due("it runs on the brake cell", "0 0 0", x.train(0, 0) + " " + x.train(0, 1) + " " + x.train(0, 5));
        Check.due("block 0 has it", 0, x.block(0, 3));
        Check.due("block 1 has none", -1, x.block(1, 3));
        x.pass(1);
        Check.due("it has moved", "1 1 0", x.train(0, 0) + " " + x.train(0, 1) + " " + x.train(0, 5));
        Check.due("block 0 has none", -1, x.block(0, 3));
        Check.due("block 1 has it", 0, x.block(1, 3));
        x.pass(25);
        Check.due("it lies", "1 1 2", x.train(0, 0) + " " + x.train(0, 1) + " " + x.train(0, 5));
        Check.due("block 1 still has it", 0, x.block(1, 3));
    }

    private static void freeWithoutATrain() {
        Check.sentence("Promise 2, Terms", "A block is free if no train is in it");
        BlockCoaster x = Rides.on("0b0b0.0.9.0b0b");
        x.set(1, 1);
        x.addTrain(1);
        Check.refused(x, "a train that stands in it", STATE, () -> x.addTrain(1));
        x.pass(21);
        Check.due("runs in block 2", "2 2", x.train(0, 0) + " " + x.train(0, 1));
        Check.refused(x, "a train that runs in it, at its other end", STATE, () -> x.addTrain(2));
        x.pass(60);
        Check.due("lies in block 2", "3 2 2", x.train(0, 0) + " " + x.train(0, 1) + " " + x.train(0, 5));
        Check.refused(x, "a train that lies in it", STATE, () -> x.addTrain(2));
        Check.due("the block behind it is free", 1, x.addTrain(3));
        Check.due("the block ahead of it is free", 2, x.addTrain(1));
    }

    private static void freeBehindAReleasedTrain() {
        Check.sentence("Promise 2, Terms",
                "and no train runs on the brake cell of the block before it (one that has just been released there)");
        BlockCoaster x = Rides.on("0b0b9.0b0b");
        x.addTrain(1);
        x.undo();
        x.addTrain(1);
        Check.due("it stands there: free", 1, x.addTrain(2));
        x.takeTrain();
        x.pass(1);
        Check.due("it runs on brake cell 1", "1 0", x.train(0, 0) + " " + x.train(0, 5));
        Check.refused(x, "the block ahead of it", STATE, () -> x.addTrain(2));
        Check.due("the block ahead of that is free", 1, x.addTrain(3));
        x.takeTrain();
        Check.due("the block behind it is free", 1, x.addTrain(0));
        x.takeTrain();
        x.pass(20);
        Check.due("it lies on brake cell 1", "1 2", x.train(0, 0) + " " + x.train(0, 5));
        Check.due("free", 1, x.addTrain(2));
    }

    private static void freeAcrossTheEnd() {
        Check.sentence("Promise 2, Terms",
                "and no train runs on the brake cell of the block before it (one that has just been released there)");
        BlockCoaster x = Rides.on("0b0b0b0b");
        x.addTrain(3);
        Check.due("it stands at the last brake", 1, x.addTrain(0));
        x.takeTrain();
        x.pass(1);
        Check.refused(x, "block 0 behind the last one", STATE, () -> x.addTrain(0));
        Check.due("block 1 is free", 1, x.addTrain(1));
    }

    private static void noTwoTrainsInABlock() {
        Check.sentence("Promise 7, Terms", "No two trains are in one block.");
        BlockCoaster x = Rides.on("0b0l0.0b0b0l0.0b0.0b");
        Rides.set(x, 3, 2, 0, 20);
        for (int block = 0; block < 4; block++) {
            x.addTrain(block);
        }
        for (int times = 0; times < 40; times++) {
            x.pass(1 + times % 11);
            for (int train = 0; train < 4; train++) {
                Check.due("the train in its block", train, x.block(x.train(train, 1), 3));
            }
        }
        for (int train = 0; train < 4; train++) {
            Check.due("train " + train + " has moved", true, x.train(train, 8) > 3);
        }
    }

    private static void newObject() {
        Check.sentence("Promise 1", "Creates the first track without trains, at tick 0.");
        BlockCoaster x = new BlockCoaster();
        Check.due("values", "14 4 0 0 3 5 0 20 0 -1 0 7", Rides.values(x));
        Check.due("digest", Rides.digestOfANewObject(), x.digest());
        Check.dueThrow("no train", INDEX, () -> x.why(0));
        Check.dueThrow("no train to take", STATE, x::takeTrain);
        Check.dueThrow("no dispatch", INDEX, () -> x.dispatch(0, 0));
        Check.dueThrow("nothing is saved", STATE, x::undo);
        Check.due("the text is empty", 0, x.clearText());
    }
}
