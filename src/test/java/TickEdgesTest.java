/** The edges of promise 7: the range and the limit of pass(), and each sentence of 'A tick'. */
public final class TickEdgesTest {
    private static final Class<IllegalArgumentException> ARGUMENT = IllegalArgumentException.class;
    private static final Class<IllegalStateException> STATE = IllegalStateException.class;
    private static final int MIN = Integer.MIN_VALUE;
    private static final int MAX = Integer.MAX_VALUE;

    public static void main(String[] args) {
        ticksRange();
        tickLimit();
        rangeComesFirst();
        answersTheDispatches();
        undoable();
        inAscendingOrder();
        ticksOfStanding();
        nextBlockIsFree();
        behindTheLastBlock();
        dwellAtTheStation();
        dwellOnlyAtTheStation();
        gapSinceTheLatestDispatch();
        gapOnlyAtTheStation();
        gapWithoutADispatch();
        released();
        releaseIsADispatchAtTheStation();
        doesNotMoveInThisTick();
        fiveOnALift();
        progressOfAHundred();
        progressAboveAHundred();
        ontoALift();
        squareOfTheNextCell();
        belowZero();
        belowZeroOnTheBrakeCell();
        belowZeroOnALift();
        squareAbove9999();
        comesToABrake();
        aBrakeStopsEachTrain();
        squareZeroOnAPlainCell();
        squareZeroTakesTheProgress();
        wheelsOfARunningTrain();
        wheelsUpTo100();
        wheelsNearerToTheAir();
        wheelsOfTheOthers();
        dragBelow60();
        theNextTick();
        Check.finish("TickEdgesTest");
    }

    /** A train that has just been released at the station of a track, with the given drag (6 to 26) and a warmth of 0. */
    private static BlockCoaster releasedWith(String track, int drag) {
        BlockCoaster x = Rides.on(track);
        Rides.set(x, drag - 6, 1, 0, 0);
        x.addTrain(0);
        x.pass(1);
        return x;
    }

    private static String where(BlockCoaster x, int train) {
        StringBuilder all = new StringBuilder();
        for (int what : new int[] {0, 2, 3, 5}) {
            all.append(x.train(train, what)).append(what == 5 ? "" : " ");
        }
        return all.toString();
    }

    private static void ticksRange() {
        Check.sentence("Promise 7", "Throws `IllegalArgumentException` if ticks is out of range");
        BlockCoaster x = new BlockCoaster();
        for (int wrong : new int[] {0, -1, 501, MIN, MAX}) {
            Check.refused(x, "pass(" + wrong + ")", ARGUMENT, () -> x.pass(wrong));
        }
        Check.sentence("Promise 7", "- `ticks`: 1 to 500");
        x.pass(1);
        Check.due("the least", 1, x.value(3));
        x.pass(500);
        Check.due("the greatest", 501, x.value(3));
    }

    private static void tickLimit() {
        Check.sentence("Promise 7", "Throws `IllegalStateException` if there would be more than 100000 ticks");
        BlockCoaster x = new BlockCoaster();
        Rides.pass(x, 99500);
        x.pass(500);
        Check.due("100000 ticks", 100000, x.value(3));
        Check.refused(x, "pass(1) at 100000", STATE, () -> x.pass(1));
        Check.refused(x, "pass(500) at 100000", STATE, () -> x.pass(500));
        x.undo();
        x.pass(1);
        Check.refused(x, "pass(500) at 99501", STATE, () -> x.pass(500));
        Check.due("pass(499) at 99501", 0, x.pass(499));
        Check.due("100000 ticks", 100000, x.value(3));
        x.undo();
        x.pass(498);
        Check.refused(x, "pass(2) at 99999", STATE, () -> x.pass(2));
        x.pass(1);
        Check.due("100000 ticks", 100000, x.value(3));
        Rides.write(x, "0b0b0b0b");
        x.parse();
        x.pass(500);
        Check.due("a new track begins anew", 500, x.value(3));
    }

    private static void rangeComesFirst() {
        Check.sentence("Promise 7, Terms", "If several exceptions apply, the one that is listed first is thrown.");
        BlockCoaster x = new BlockCoaster();
        Rides.pass(x, 100000);
        for (int wrong : new int[] {0, -1, 501, MIN, MAX}) {
            Check.refused(x, "pass(" + wrong + ") at 100000", ARGUMENT, () -> x.pass(wrong));
        }
    }

    private static void answersTheDispatches() {
        Check.sentence("Promise 7", "Returns the number of dispatches in them.");
        BlockCoaster x = Rides.on("0b0b0b0b");
        x.set(1, 1);
        Check.due("without a train", 0, x.pass(500));
        x.addTrain(0);
        Check.due("the first tick", 1, x.pass(1));
        Check.due("as far as the station", 0, x.pass(83));
        Check.due("the tick of the next one", 1, x.pass(1));
        Check.due("84 ticks from there", 1, x.pass(84));
        Check.due("500 ticks, 84 apart", 5, x.pass(500));
        Check.due("all of them", 8, x.value(8));
    }

    private static void undoable() {
        Check.sentence("Promise 7", "Lets ticks pass. Undoable.");
        BlockCoaster x = new BlockCoaster();
        x.pass(1);
        x.pass(500);
        Check.due("one state for 500 ticks", 1, x.undo());
        Check.due("ticks", 1, x.value(3));
        Check.due("and one for the first", 0, x.undo());
        Check.due("ticks", 0, x.value(3));
    }

    private static void inAscendingOrder() {
        Check.sentence("Promise 7, Terms",
                "When a tick passes, for each train in ascending order, by all as it is by then");
        BlockCoaster x = Rides.on("0b0b0b0b");
        x.addTrain(3);
        x.addTrain(2);
        x.pass(21);
        Check.due("train 0 leaves block 3, and train 1 sees it in the same tick", "0 0 0 1", where(x, 0));
        Check.due("train 1", "2 25 0 0", where(x, 1));
        BlockCoaster y = Rides.on("0b0b0b0b");
        y.addTrain(2);
        y.addTrain(3);
        y.pass(21);
        Check.due("train 1 leaves block 3, but train 0 has been ahead of it", "2 0 0 1", where(y, 0));
        y.pass(1);
        Check.due("one tick later", "2 25 0 0", where(y, 0));
    }

    private static void ticksOfStanding() {
        Check.sentence("Promise 7, Terms", "A train that stands at a brake: its ticks of standing increase by 1.");
        BlockCoaster x = Rides.on("0b0b0.0.");
        x.set(1, 50);
        x.addTrain(0);
        x.addTrain(1);
        Check.due("at first", "0 0", x.train(0, 6) + " " + x.train(1, 6));
        x.pass(1);
        Check.due("one tick", "1 1", x.train(0, 6) + " " + x.train(1, 6));
        x.pass(499);
        Check.due("they go on behind the dwell", "500 500", x.train(0, 6) + " " + x.train(1, 6));
    }

    private static void nextBlockIsFree() {
        Check.sentence("Promise 7, Terms", "It is released if the next block (behind the last one: block 0) is free");
        BlockCoaster x = Rides.on("0b0b0b0.0b");
        x.addTrain(1);
        x.addTrain(2);
        x.addTrain(3);
        x.addTrain(0);
        x.pass(60);
        Check.due("no block is free", "1 0 0 1", where(x, 0));
        x.takeTrain();
        x.pass(1);
        Check.due("train 2 goes, 1 and 0 wait", "1 1 0", x.train(0, 5) + " " + x.train(1, 5) + " " + x.train(2, 5));
        x.pass(19);
        Check.due("until it has left its brake cell", "1 1 0", x.train(0, 5) + " " + x.train(1, 5) + " " + x.train(2, 5));
        x.pass(1);
        Check.due("it stands at the station", 0, x.train(2, 0));
        Check.due("and train 1 has not seen it yet", 1, x.train(1, 5));
        x.pass(1);
        Check.due("now train 1 goes", "1 0", x.train(0, 5) + " " + x.train(1, 5));
    }

    private static void behindTheLastBlock() {
        Check.sentence("Promise 7, Terms", "It is released if the next block (behind the last one: block 0) is free");
        BlockCoaster x = Rides.on("0b0b0b0b");
        x.set(1, 50);
        x.addTrain(3);
        x.addTrain(0);
        x.pass(49);
        Check.due("block 0 is not free", "3 0 0 1", where(x, 0));
        Check.due("the station's train goes", 1, x.pass(1));
        x.pass(20);
        Check.due("it has left, behind train 0", "3 0 0 1", where(x, 0));
        x.pass(1);
        Check.due("block 0 is free", "3 25 0 0", where(x, 0));
        BlockCoaster y = Rides.on("0b0b0.0.");
        y.addTrain(1);
        y.pass(1);
        Check.due("block 0 is free from the beginning", "1 25 0 0", where(y, 0));
    }

    private static void dwellAtTheStation() {
        Check.sentence("Promise 7, Terms", "if it is at the station, it has stood for at least the dwell");
        for (int dwell : new int[] {1, 2, 5, 50}) {
            BlockCoaster x = Rides.on("0b0b0b0b");
            x.set(1, dwell);
            x.addTrain(0);
            for (int tick = 1; tick < dwell; tick++) {
                x.pass(1);
            }
            Check.due("dwell " + dwell + ", one tick too early", "0 0 0 1", where(x, 0));
            Check.due("dwell " + dwell + ", the tick", 1, x.pass(1));
            Check.due("it comes again after 83 ticks, too early", 0, x.pass(83 + dwell - 1));
            Check.due("it stands there", "0 0 0 1", where(x, 0));
            Check.due("the tick", 1, x.pass(1));
        }
        BlockCoaster x = Rides.on("0b0b0b0b");
        x.set(1, 50);
        x.addTrain(0);
        x.pass(30);
        x.set(1, 10);
        Check.due("it has stood for more than a shorter dwell", 1, x.pass(1));
    }

    private static void dwellOnlyAtTheStation() {
        Check.sentence("Promise 7, Terms", "if it is at the station, it has stood for at least the dwell");
        BlockCoaster x = Rides.on("0b0b0b0b");
        x.set(1, 50);
        x.addTrain(1);
        x.pass(1);
        Check.due("at another brake it has none", "1 25 0 0", where(x, 0));
    }

    private static void gapSinceTheLatestDispatch() {
        Check.sentence("Promise 7, Terms", "the latest dispatch was at least the gap ago (the ticks that have passed ahead"
                + " of this one minus the tick of the latest dispatch, told likewise; without one it does not matter)");
        for (int gap : new int[] {0, 84, 85, 90, 500}) {
            BlockCoaster x = Rides.on("0b0b0b0b");
            Rides.set(x, 3, 1, gap, 20);
            x.addTrain(0);
            int second = Math.max(84, gap);
            Check.due("the first dispatch", 1, x.pass(1));
            Rides.pass(x, second - 1);
            Check.due("gap " + gap + ", one tick too early", "1 0", x.value(8) + " " + x.value(9));
            Check.due("gap " + gap + ", the tick", 1, x.pass(1));
            Check.due("gap " + gap + ", the second dispatch", second, x.value(9));
        }
    }

    private static void gapOnlyAtTheStation() {
        Check.sentence("Promise 7, Terms", "the latest dispatch was at least the gap ago");
        BlockCoaster x = Rides.on("0b0b0b0b");
        Rides.set(x, 3, 1, 500, 20);
        x.addTrain(0);
        x.pass(22);
        Check.due("at the next brake it does not matter", "1 25 0 0", where(x, 0));
    }

    private static void gapWithoutADispatch() {
        Check.sentence("Promise 7, Terms", "without one it does not matter");
        BlockCoaster x = Rides.on("0b0b0b0b");
        Rides.set(x, 3, 1, 500, 20);
        x.addTrain(0);
        Check.due("at tick 0", 1, x.pass(1));
        x.undo();
        x.takeTrain();
        x.pass(30);
        x.addTrain(0);
        Check.due("at tick 30", 1, x.pass(1));
        Rides.write(x, "0b0b0b0b");
        x.parse();
        x.addTrain(0);
        Check.due("on a new track", 1, x.pass(1));
    }

    private static void released() {
        Check.sentence("Promise 7, Terms", "A train that is released runs, with the square 25 and the progress 0");
        BlockCoaster x = Rides.on("0b0b0b0b");
        x.addTrain(0);
        x.pass(5);
        Check.due("at the station", "0 0 25 0 20 0 0 7 0 0 0", Rides.train(x, 0));
        x.pass(21);
        Check.due("at the next brake", "1 1 25 0 20 0 0 7 1 0 0", Rides.train(x, 0));
    }

    private static void releaseIsADispatchAtTheStation() {
        Check.sentence("Promise 7, Terms", "a release at the station is a dispatch, and it is put into the log.");
        BlockCoaster x = Rides.on("0.0b0b0b");
        x.set(1, 1);
        x.addTrain(1);
        Check.due("at another brake it is none", 0, x.pass(1));
        Check.due("there is none", "0 -1", x.value(8) + " " + x.value(9));
        x.addTrain(0);
        x.pass(20);
        Check.due("at the station it is one", "1 20", x.value(8) + " " + x.value(9));
        Check.due("in the log", "20 1", x.dispatch(0, 0) + " " + x.dispatch(0, 1));
    }

    private static void doesNotMoveInThisTick() {
        Check.sentence("Promise 7, Terms", "It does not move in this tick.");
        BlockCoaster x = releasedWith("0b0b0b0b", 7);
        Check.due("the tick of its release", "0 25 0 0", where(x, 0));
        x.pass(1);
        Check.due("the next tick", "0 25 5 0", where(x, 0));
    }

    private static void fiveOnALift() {
        Check.sentence("Promise 7, Terms", "its progress increases by 5 on a lift cell, otherwise by its speed.");
        BlockCoaster x = Rides.on("0b0l0.0b");
        x.set(1, 1);
        x.addTrain(0);
        x.pass(21);
        Check.due("on the lift", "1 25 0 0", where(x, 0));
        x.pass(1);
        Check.due("5", "1 25 5 0", where(x, 0));
        x.pass(18);
        Check.due("95", "1 25 95 0", where(x, 0));
        x.pass(1);
        Check.due("behind the lift", "2 18 0 0", where(x, 0));
        x.pass(1);
        Check.due("the speed 4", "2 18 4 0", where(x, 0));
    }

    private static void progressOfAHundred() {
        Check.sentence("Promise 7, Terms",
                "While the progress is 100 or more, and the train runs: the progress falls by 100");
        BlockCoaster x = releasedWith("0b0.0.0b", 14);
        x.pass(19);
        Check.due("95", "0 25 95 0", where(x, 0));
        x.pass(1);
        Check.due("100 is 0 on the next cell", "1 11 0 0", where(x, 0));
        BlockCoaster y = releasedWith("0b0.0.0b", 10);
        y.pass(20 + 33);
        Check.due("speed 3, 99 is no 100", "1 15 99 0", where(y, 0));
    }

    private static void progressAboveAHundred() {
        Check.sentence("Promise 7, Terms",
                "While the progress is 100 or more, and the train runs: the progress falls by 100");
        BlockCoaster x = releasedWith("0b0.0.0.0b", 10);
        x.pass(20 + 34);
        Check.due("102 is 2 on the next cell", "2 5 2 0", where(x, 0));
        x.pass(48);
        Check.due("speed 2, 98", "2 5 98 0", where(x, 0));
        Drive drive = Drive.at(9999);
        drive.move(0, 0);
        int before = drive.progress();
        int cell = drive.x.train(0, 0);
        drive.x.pass(1);
        Check.due("99 a tick", before + 99, 100 * (drive.x.train(0, 0) - cell) + drive.progress());
    }

    private static void ontoALift() {
        Check.sentence("Promise 7, Terms", "its square becomes, on a lift cell to which it comes, 25");
        BlockCoaster x = releasedWith("0b9l0.0b", 26);
        x.pass(20);
        Check.due("up nine, whatever the drag", "1 25 0 0", where(x, 0));
        BlockCoaster y = releasedWith("9b0l0.0b", 6);
        y.pass(20);
        Check.due("down nine", "1 25 0 0", where(y, 0));
        BlockCoaster z = releasedWith("0b0l9l0b", 26);
        z.pass(40);
        Check.due("from lift to lift", "2 25 0 0", where(z, 0));
    }

    private static void squareOfTheNextCell() {
        Check.sentence("Promise 7, Terms", "otherwise its square + 100 * (the height that it leaves)"
                + " - 100 * (the height to which it comes) - its drag.");
        BlockCoaster x = releasedWith("9b0.0.0b", 6);
        x.pass(20);
        Check.due("nine down", "1 919 0 0", where(x, 0));
        BlockCoaster y = releasedWith("3b2.3.0b", 6);
        y.pass(20);
        Check.due("one down", "1 119 0 0", where(y, 0));
        y.pass(10);
        Check.due("one up", "2 13 0 0", where(y, 0));
        BlockCoaster z = Rides.on("0.0b9b0.");
        Rides.set(z, 0, 1, 0, 0);
        z.addTrain(1);
        z.pass(21);
        Check.due("to the last cell", "3 919 0 0", where(z, 0));
        z.setHeight(0, 9);
        z.pass(3);
        Check.due("the last tick there", "3 919 90 0", where(z, 0));
        z.pass(1);
        Check.due("up across the end of the ring, 8 warm", "0 14 20 0", where(z, 0));
        BlockCoaster w = releasedWith("9b0.9.0b", 6);
        w.pass(20);
        w.setHeight(1, 9);
        Check.due("a height that is set leaves the square", "1 919 0 0", where(w, 0));
        w.pass(4);
        Check.due("and is the height that it leaves", "2 914 20 0", where(w, 0));
    }

    private static void belowZero() {
        Check.sentence("Promise 7, Terms", "If that is below 0, it does not move, but lies in a valley");
        BlockCoaster x = releasedWith("0b0.0.0b", 13);
        x.pass(20 + 34);
        Check.due("12 - 13 is below 0; 102 is no progress", "1 0 0 2", where(x, 0));
        Check.due("it has moved once", 1, x.train(0, 8));
        BlockCoaster y = releasedWith("0b0.0b0b", 12);
        y.pass(20 + 34);
        Check.due("13 - 12 is not", "2 0 0 1", where(y, 0));
        y = releasedWith("0b0.0b0b", 13);
        y.pass(20 + 34);
        Check.due("12 - 13 ahead of a brake cell", "1 0 0 2", where(y, 0));
        Check.due("one lies", 1, y.value(10));
    }

    private static void belowZeroOnTheBrakeCell() {
        Check.sentence("Promise 7, Terms",
                "(also on a brake cell on which it was released): its square and its progress are 0.");
        BlockCoaster x = releasedWith("0b0.0.0b", 26);
        x.pass(19);
        Check.due("the tick before", "0 25 95 0", where(x, 0));
        x.pass(1);
        Check.due("25 - 26", "0 0 0 0 0 2 0 26 0 0 1", Rides.train(x, 0));
        BlockCoaster y = releasedWith("0b0b0b0b", 26);
        y.pass(20);
        Check.due("ahead of a brake cell", "0 0 0 2", where(y, 0));
        BlockCoaster z = releasedWith("0b0b0b0b", 25);
        z.pass(20);
        Check.due("25 - 25 is not below 0", "1 0 0 1", where(z, 0));
    }

    private static void belowZeroOnALift() {
        Check.sentence("Promise 7, Terms", "If that is below 0, it does not move, but lies in a valley");
        BlockCoaster x = releasedWith("0b0l1.0b", 6);
        x.pass(40);
        Check.due("on a lift", "1 0 0 2", where(x, 0));
        x.pass(107);
        Check.due("where it stays", "1 0 0 2", where(x, 0));
        x.setHeight(2, 0);
        x.pass(107);
        Check.due("even if the way is free", "1 0 0 2", where(x, 0));
    }

    private static void squareAbove9999() {
        Check.sentence("Promise 7, Terms", "A square above 9999 becomes 9999.");
        int[][] all = {{9998, 9998}, {9999, 9999}, {10000, 9999}, {10001, 9999}};
        for (int[] one : all) {
            Drive drive = Drive.at(one[0]);
            Check.due("of " + one[0], one[1], drive.square());
            drive.move(0, 20);
            Check.due("it goes on from there", one[1] - 20, drive.square());
        }
        Drive drive = Drive.at(9999);
        drive.move(9, 0);
        Check.due("9999 + 900", 9999, drive.square());
    }

    private static void comesToABrake() {
        Check.sentence("Promise 7, Terms",
                "it stands at the brake: its square and progress are 0, and its ticks of standing are 0.");
        BlockCoaster x = releasedWith("0b0.0b0b", 10);
        x.pass(20 + 33);
        Check.due("ahead of it", "1 15 99 0", where(x, 0));
        x.pass(1);
        Check.due("15 - 10, and 102", "2 1 0 0 0 1 0 10 2 0 5", Rides.train(x, 0));
        x.pass(1);
        Check.due("it goes on in the next tick", "2 25 0 0", where(x, 0));
    }

    private static void aBrakeStopsEachTrain() {
        Check.sentence("Promise 7, Terms", "A brake stops each train.");
        Drive drive = Drive.at(9999);
        for (int ticks = 0; ticks < 100 && drive.x.train(0, 5) == 0; ticks++) {
            drive.x.pass(1);
        }
        Check.due("the fastest", "29 0 0 1", where(drive.x, 0));
        BlockCoaster x = releasedWith("0b0b0b0b", 25);
        x.pass(20);
        Check.due("the one without a square", "1 0 0 1", where(x, 0));
        Check.due("is in no valley", 0, x.value(10));
    }

    private static void squareZeroOnAPlainCell() {
        Check.sentence("Promise 7, Terms", "A train whose square is 0 on a cell that is no brake cell, and no lift cell,"
                + " lies in a valley, too");
        BlockCoaster x = releasedWith("0b0.0.0b", 25);
        x.pass(20);
        Check.due("25 - 25", "1 1 0 0 0 2 0 25 1 0 1", Rides.train(x, 0));
        BlockCoaster y = releasedWith("0b0.0.0b", 24);
        y.pass(20);
        Check.due("25 - 24", "1 1 0 0", where(y, 0));
        BlockCoaster z = releasedWith("0b0l0.0b", 25);
        z.pass(20);
        Check.due("a lift cell has 25", "1 25 0 0", where(z, 0));
        z.pass(20);
        Check.due("behind it", "2 0 0 2", where(z, 0));
    }

    private static void squareZeroTakesTheProgress() {
        Check.sentence("Promise 7, Terms", "lies in a valley, too (its progress becomes 0).");
        BlockCoaster x = releasedWith("0b0.0.0b", 11);
        x.pass(20);
        x.set(0, 8);
        x.pass(33);
        Check.due("speed 3", "1 14 99 0", where(x, 0));
        x.pass(1);
        Check.due("14 - 14, and 102", "2 0 0 2", where(x, 0));
        Check.due("it has moved there", 2, x.train(0, 8));
    }

    private static void wheelsOfARunningTrain() {
        Check.sentence("Promise 7, Terms", "a train that runs now gets warmer by speed / 10, up to 100");
        BlockCoaster x = Rides.on("9b0.0.0b");
        Rides.set(x, 0, 1, 0, 40);
        x.addTrain(0);
        x.pass(20);
        Check.due("speed 5", 40, x.train(0, 4));
        x.pass(1);
        Check.due("speed 30 as soon as it has come to the cell", "923 42", x.train(0, 2) + " " + x.train(0, 4));
        x.pass(4);
        Check.due("four ticks of 3 - 1 later", "922 50", x.train(0, 2) + " " + x.train(0, 4));
        x.pass(2);
        Check.due("the last tick ahead of the brake", "922 80 54", x.train(0, 2) + " " + x.train(0, 3) + " " + x.train(0, 4));
        x.pass(1);
        Check.due("one that stands now gets no warmer", "0 53", x.train(0, 2) + " " + x.train(0, 4));
        BlockCoaster y = Rides.on("9b0.9.0b");
        Rides.set(y, 20, 1, 0, 40);
        y.addTrain(0);
        y.pass(24);
        Check.due("903 on cell 1", "1 903 48", y.train(0, 0) + " " + y.train(0, 2) + " " + y.train(0, 4));
        y.pass(1);
        Check.due("one that lies now gets no warmer", "2 47", y.train(0, 5) + " " + y.train(0, 4));
    }

    private static void wheelsUpTo100() {
        Check.sentence("Promise 7, Terms", "a train that runs now gets warmer by speed / 10, up to 100");
        Drive drive = Drive.warm();
        int above = 0;
        for (int moves = 0; moves < 16; moves++) {
            drive.x.setHeight(drive.x.train(0, 0), 9);
            int before = drive.warmth();
            drive.x.pass(1);
            int warmer = before + root(drive.square()) / 10;
            above += warmer > 100 ? 1 : 0;
            Check.due("from " + before + ", then nearer to the air", Math.min(100, warmer) - 1, drive.warmth());
        }
        Check.due("it would be above 100 now and then", true, above > 3);
    }

    private static int root(int square) {
        int root = 0;
        while ((root + 1) * (root + 1) <= square) {
            root++;
        }
        return root;
    }

    private static void wheelsNearerToTheAir() {
        Check.sentence("Promise 7, Terms",
                "then each train's warmth comes nearer to the air by 1, if it is not the same.");
        BlockCoaster x = Rides.on("0b0b0.0.");
        x.addTrain(1);
        x.addTrain(0);
        x.pass(3);
        Check.due("the same", 20, x.train(0, 4));
        x.set(3, 21);
        x.pass(1);
        Check.due("one warmer", 21, x.train(0, 4));
        x.pass(1);
        Check.due("no more", 21, x.train(0, 4));
        x.set(3, 20);
        x.pass(1);
        Check.due("one colder", 20, x.train(0, 4));
        x.pass(1);
        Check.due("no more", 20, x.train(0, 4));
        x.set(3, 40);
        x.pass(19);
        Check.due("nearly 40", 39, x.train(0, 4));
        x.pass(2);
        Check.due("40", 40, x.train(0, 4));
        x.set(3, 0);
        x.pass(39);
        Check.due("nearly 0", 1, x.train(0, 4));
        x.pass(2);
        Check.due("0", 0, x.train(0, 4));
    }

    private static void wheelsOfTheOthers() {
        Check.sentence("Promise 7, Terms",
                "then each train's warmth comes nearer to the air by 1, if it is not the same.");
        BlockCoaster x = Rides.on("0b9.0b0.0b0.0b0.");
        x.set(1, 1);
        x.addTrain(0);
        x.pass(21);
        x.addTrain(1);
        x.addTrain(3);
        x.set(3, 30);
        x.pass(4);
        Check.due("one lies, one runs, one stands", "2 0 1", x.train(0, 5) + " " + x.train(1, 5) + " " + x.train(2, 5));
        Check.due("each is 4 warmer", "24 24 24", x.train(0, 4) + " " + x.train(1, 4) + " " + x.train(2, 4));
    }

    private static void dragBelow60() {
        Check.sentence("Promise 7, Terms", "The drag is the friction, plus (60 - warmth) / 10 for a warmth below 60.");
        Drive drive = Drive.at(9999);
        BlockCoaster x = drive.x;
        x.addTrain(0);
        for (int ticks = 0; ticks < 100 && x.train(0, 5) == 0; ticks++) {
            x.pass(1);
        }
        x.set(0, 7);
        int[][] all = {{70, 7}, {61, 7}, {60, 7}, {59, 7}, {51, 7}, {50, 8}, {41, 8}};
        for (int[] one : all) {
            x.pass(drive.warmth() - one[0]);
            Check.due("at the warmth " + one[0], one[0] + " " + one[1], drive.warmth() + " " + x.train(0, 7));
        }
        x.set(3, 0);
        all = new int[][] {{40, 9}, {31, 9}, {30, 10}, {21, 10}, {20, 11}, {11, 11}, {10, 12}, {1, 12}, {0, 13}};
        for (int[] one : all) {
            x.pass(drive.warmth() - one[0]);
            Check.due("at the warmth " + one[0], one[0] + " " + one[1], drive.warmth() + " " + x.train(0, 7));
        }
        x.set(0, 0);
        Check.due("without friction", 6, x.train(0, 7));
    }

    private static void theNextTick() {
        Check.sentence("Promise 7, Terms", "Then the tick is the next one.");
        BlockCoaster x = Rides.on("0b0b0b0b");
        x.set(1, 1);
        x.addTrain(0);
        x.pass(1);
        Check.due("a dispatch has the tick that was", "0 1", x.value(9) + " " + x.value(3));
    }
}
