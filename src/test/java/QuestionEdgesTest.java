/** The edges of promises 14 to 19: ticksToStation, ticksToValley, dispatchesWith, mostFriction, leastSquare, meanWarmth. */
public final class QuestionEdgesTest {
    private static final Class<IndexOutOfBoundsException> INDEX = IndexOutOfBoundsException.class;
    private static final Class<IllegalArgumentException> ARGUMENT = IllegalArgumentException.class;
    private static final int MIN = Integer.MIN_VALUE;
    private static final int MAX = Integer.MAX_VALUE;

    public static void main(String[] args) {
        stationNoTrain();
        stationOneOrMore();
        stationHasToComeAgain();
        stationOfThatTrain();
        stationIn2000Ticks();
        stationNever();
        questionsAtTheLimitOfPass();
        valleyOneOrMore();
        valleyThatDoesNotNow();
        valleyOfEachKind();
        valleyIn2000Ticks();
        gapRange();
        gapIsAnotherOne();
        dispatchesIn1000Ticks();
        dispatchesGapOfTheLatest();
        frictionRange();
        frictionNone();
        frictionIn500Ticks();
        frictionIsTheGreatest();
        frictionThatDoesNotNow();
        squareNoCell();
        squareOfABrakeCell();
        squareBeginsWithZero();
        squareOfOneCell();
        squareOfAValley();
        squareOfALift();
        squareNone();
        squareGreatest();
        squareAcrossTheEnd();
        squareWithTheFrictionAlone();
        meanWithoutTrains();
        meanOfAll();
        questionsChangeNothing();
        Check.finish("QuestionEdgesTest");
    }

    private static void stationNoTrain() {
        Check.sentence("Promise 14", "Throws `IndexOutOfBoundsException` if there is no such train");
        BlockCoaster x = Rides.on("0b".repeat(8));
        x.set(1, 1);
        Check.refused(x, "ticksToStation(0) without a train", INDEX, () -> x.ticksToStation(0));
        for (int trains = 1; trains <= 4; trains++) {
            x.addTrain(2 * trains - 1);
            for (int wrong : new int[] {-1, trains, MIN, MAX}) {
                Check.refused(x, "ticksToStation(" + wrong + ") of " + trains, INDEX, () -> x.ticksToStation(wrong));
            }
        }
        Check.due("the least number", 7 * 21, x.ticksToStation(0));
        Check.due("the greatest number", 21, x.ticksToStation(3));
    }

    private static void stationOneOrMore() {
        Check.sentence("Promise 14", "Returns the ticks, 1 or more (one that is there has to come again)");
        BlockCoaster x = Rides.on("0b0b0b0b");
        x.addTrain(3);
        Check.due("released, then 20", 21, x.ticksToStation(0));
        x.pass(1);
        Check.due("20", 20, x.ticksToStation(0));
        x.pass(19);
        Check.due("the next tick", 1, x.ticksToStation(0));
        x.pass(1);
        Check.due("it is there", "0 1", x.train(0, 0) + " " + x.train(0, 9));
    }

    private static void stationHasToComeAgain() {
        Check.sentence("Promise 14", "Returns the ticks, 1 or more (one that is there has to come again)");
        BlockCoaster x = Rides.on("0b0b0b0b");
        x.set(1, 1);
        x.addTrain(0);
        Check.due("it stands there, and never came", 84, x.ticksToStation(0));
        x.pass(1);
        Check.due("it runs there", 83, x.ticksToStation(0));
        x.pass(83);
        Check.due("it has come", 84, x.ticksToStation(0));
    }

    private static void stationOfThatTrain() {
        Check.sentence("Promise 14", "Tells how many ticks would pass until a train comes to the station.");
        BlockCoaster x = Rides.on("0b".repeat(8));
        x.set(1, 1);
        x.addTrain(4);
        x.addTrain(7);
        Check.due("train 0", 4 * 21, x.ticksToStation(0));
        Check.due("train 1", 21, x.ticksToStation(1));
    }

    private static void stationIn2000Ticks() {
        Check.sentence("Promise 14", "NONE if it would not come in 2000 ticks");
        // 20 ticks to cell 1, 1680 to the brake cell 29, and 21 to the station
        Check.due("1999", 1999, Rides.releasedIn(Rides.slowTrack(0), 278).ticksToStation(0));
        Check.due("2000", 2000, Rides.releasedIn(Rides.slowTrack(0), 279).ticksToStation(0));
        Check.due("2001", -1, Rides.releasedIn(Rides.slowTrack(0), 280).ticksToStation(0));
    }

    private static void stationNever() {
        Check.sentence("Promise 14", "NONE if it would not come in 2000 ticks");
        BlockCoaster x = Rides.on("0b9.0b0.");
        x.addTrain(0);
        Check.due("it will lie", -1, x.ticksToStation(0));
        x.pass(25);
        Check.due("it lies", -1, x.ticksToStation(0));
        x.addTrain(1);
        Check.due("it waits for the one that lies", -1, x.ticksToStation(1));
    }

    private static void questionsAtTheLimitOfPass() {
        Check.sentence("Promise 14", "(the limit of pass() does not matter for questions)");
        BlockCoaster x = Rides.on("0b0b0b0b");
        x.set(1, 1);
        x.addTrain(0);
        Rides.pass(x, 100000);
        Check.due("ticks", 100000, x.value(3));
        Check.due("ticksToStation", 44, x.ticksToStation(0));
        Check.due("dispatchesWith", 12, x.dispatchesWith(0));
        Check.due("mostFriction", 20, x.mostFriction());
        x.setHeight(2, 9);
        Check.due("ticksToValley", 2, x.ticksToValley());
        Check.due("mostFriction", -1, x.mostFriction());
        Check.due("still", 100000, x.value(3));
    }

    private static void valleyOneOrMore() {
        Check.sentence("Promise 15", "Returns the ticks, 1 or more; NONE if none does in 2000 ticks.");
        BlockCoaster x = Rides.on("0b9.0b0.");
        x.set(1, 1);
        Check.due("no train", -1, x.ticksToValley());
        x.addTrain(0);
        Check.due("released, then 20", 21, x.ticksToValley());
        x.pass(20);
        Check.due("the next tick", 1, x.ticksToValley());
        x.pass(1);
        Check.due("it lies", 1, x.value(10));
    }

    private static void valleyThatDoesNotNow() {
        Check.sentence("Promise 15",
                "Tells how many ticks would pass until some train lies in a valley that does not now.");
        BlockCoaster x = Rides.on("0b9.0b0b0b9.");
        x.set(1, 1);
        x.addTrain(0);
        x.pass(21);
        Check.due("one that lies now", "1 -1", x.value(10) + " " + x.ticksToValley());
        x.addTrain(3);
        Check.due("another one, that waits for it", -1, x.ticksToValley());
        x.takeTrain();
        x.addTrain(1);
        x.setHeight(3, 9);
        Check.due("another one, that will", 21, x.ticksToValley());
        x.pass(21);
        Check.due("both lie", "2 -1", x.value(10) + " " + x.ticksToValley());
        x.rescue(0);
        x.rescue(1);
        Check.due("one of them lies again", 21, x.ticksToValley());
    }

    private static void valleyOfEachKind() {
        Check.sentence("Promise 15",
                "Tells how many ticks would pass until some train lies in a valley that does not now.");
        BlockCoaster x = Rides.on("0b0.0.0b");
        Rides.set(x, 19, 1, 0, 0);
        x.addTrain(0);
        Check.due("a square of 0", 21, x.ticksToValley());
        x.set(0, 20);
        Check.due("on the brake cell", 21, x.ticksToValley());
        x.set(0, 18);
        Check.due("on a plain cell", 121, x.ticksToValley());
        BlockCoaster y = Rides.on("0b0b0b0b");
        Rides.set(y, 19, 1, 0, 0);
        y.addTrain(0);
        Check.due("a square of 0 at a brake cell is none", -1, y.ticksToValley());
    }

    private static void valleyIn2000Ticks() {
        Check.sentence("Promise 15", "NONE if none does in 2000 ticks.");
        Check.due("1999", 1999, Rides.releasedIn(Rides.slowTrack(9), 299).ticksToValley());
        Check.due("2000", 2000, Rides.releasedIn(Rides.slowTrack(9), 300).ticksToValley());
        Check.due("2001", -1, Rides.releasedIn(Rides.slowTrack(9), 301).ticksToValley());
    }

    private static void gapRange() {
        Check.sentence("Promise 16", "Throws `IllegalArgumentException` if gap is out of range");
        BlockCoaster x = Rides.on("0b0b0b0b");
        x.set(1, 1);
        x.addTrain(0);
        for (int wrong : new int[] {-1, 501, MIN, MAX}) {
            Check.refused(x, "dispatchesWith(" + wrong + ")", ARGUMENT, () -> x.dispatchesWith(wrong));
        }
        Check.sentence("Promise 16", "- `gap`: 0 to 500");
        Check.due("the least", 12, x.dispatchesWith(0));
        Check.due("the greatest", 2, x.dispatchesWith(500));
        Check.due("one less", 3, x.dispatchesWith(499));
    }

    private static void gapIsAnotherOne() {
        Check.sentence("Promise 16",
                "Tells how many dispatches there would be in the next 1000 ticks with another gap.");
        BlockCoaster x = Rides.on("0b0b0b0b");
        x.set(1, 1);
        Check.due("without a train", 0, x.dispatchesWith(0));
        x.addTrain(0);
        x.set(2, 500);
        Check.due("a smaller one", 12, x.dispatchesWith(0));
        Check.due("the same one", 2, x.dispatchesWith(500));
        x.set(2, 0);
        Check.due("a greater one", 2, x.dispatchesWith(500));
        x.set(1, 50);
        Check.due("the dwell is no other one", 8, x.dispatchesWith(0));
    }

    private static void dispatchesIn1000Ticks() {
        Check.sentence("Promise 16",
                "Tells how many dispatches there would be in the next 1000 ticks with another gap.");
        BlockCoaster x = Rides.on("0b0b0b0b");
        x.set(1, 1);
        x.addTrain(0);
        // Dispatches in the ticks 0, 84, .. 924, 1008
        x.pass(1);
        Check.due("the ticks 1 to 1000", 11, x.dispatchesWith(0));
        x.pass(7);
        Check.due("the ticks 8 to 1007", 11, x.dispatchesWith(0));
        x.pass(1);
        Check.due("the ticks 9 to 1008", 12, x.dispatchesWith(0));
        x.pass(75);
        Check.due("the ticks 84 to 1083", 12, x.dispatchesWith(0));
        x.pass(1);
        Check.due("the ticks 85 to 1084", 11, x.dispatchesWith(0));
        Check.due("the dispatches of before are none of them", 2, x.value(8));
    }

    private static void dispatchesGapOfTheLatest() {
        Check.sentence("Promise 16",
                "Tells how many dispatches there would be in the next 1000 ticks with another gap.");
        BlockCoaster x = Rides.on("0b0b0b0b");
        x.set(1, 1);
        x.addTrain(0);
        Check.due("the ticks 0, 333, 666 and 999, of 0 to 999", 4, x.dispatchesWith(333));
        Check.due("the ticks 0, 334 and 668, for 1002 is none of them", 3, x.dispatchesWith(334));
        Check.due("the ticks 0 and 500, for 1000 is none of them", 2, x.dispatchesWith(500));
        x.pass(1);
        Check.due("the ticks 500 and 1000, of 1 to 1000", 2, x.dispatchesWith(500));
        Check.due("from the dispatch of before: the ticks 334 and 668", 2, x.dispatchesWith(334));
    }

    private static void frictionRange() {
        Check.sentence("Promise 17", "Returns the friction, 0 to 20; NONE if there is none.");
        BlockCoaster x = Rides.on("0b0.0.0b");
        Check.due("the greatest, without a train", 20, x.mostFriction());
        BlockCoaster y = Rides.on("0b0b0b0b");
        y.set(3, 40);
        y.addTrain(0);
        Check.due("the greatest: 25 - 20 - 2", 20, y.mostFriction());
        int[][] all = {
            // air, cells between the brakes, the greatest friction with which 25 is enough for all
            {0, 0, 19}, {10, 0, 20}, {0, 3, 0}, {9, 3, 1}, {40, 3, 4},
        };
        for (int[] one : all) {
            BlockCoaster z = Rides.on("0b" + "0.".repeat(one[1]) + "0b" + "0b".repeat(2));
            Rides.set(z, 7, 1, 0, one[0]);
            z.addTrain(0);
            Check.due("air " + one[0] + ", " + one[1] + " cells", one[2], z.mostFriction());
        }
    }

    private static void frictionNone() {
        Check.sentence("Promise 17", "Returns the friction, 0 to 20; NONE if there is none.");
        BlockCoaster x = Rides.on("0b1.0.0b");
        x.set(3, 40);
        x.addTrain(0);
        Check.due("a hill", -1, x.mostFriction());
        BlockCoaster y = Rides.on("0b0.0.0.0.0b");
        Rides.set(y, 0, 1, 0, 0);
        y.addTrain(0);
        Check.due("five times 6 is more than 25", -1, y.mostFriction());
    }

    private static void frictionIn500Ticks() {
        Check.sentence("Promise 17", "no train would come to lie in a valley in the next 500 ticks");
        Check.due("in tick 499", -1, Rides.releasedIn("0b9.0b0.", 479).mostFriction());
        Check.due("in tick 500", -1, Rides.releasedIn("0b9.0b0.", 480).mostFriction());
        Check.due("in tick 501", 20, Rides.releasedIn("0b9.0b0.", 481).mostFriction());
    }

    private static void frictionIsTheGreatest() {
        Check.sentence("Promise 17", "Finds the greatest friction with which no train would come to lie in a valley");
        // Released in tick 402, on cell 1 in tick 422. With 7 to 15 it lies in tick 472 at the latest; with 16 to 18 its
        // speed there is 1, and it would lie in tick 522; with 19 and 20 it lies in tick 422.
        BlockCoaster x = Rides.releasedIn("9b9.9.3b", 402);
        x.set(0, 6);
        Check.due("with 6 it comes to brake cell 3 in tick 554, and lies there later", 575, x.ticksToValley());
        x.set(0, 7);
        Check.due("with 7", 456, x.ticksToValley());
        x.set(0, 15);
        Check.due("with 15", 472, x.ticksToValley());
        x.set(0, 18);
        Check.due("with 18", 522, x.ticksToValley());
        x.set(0, 19);
        Check.due("with 19", 422, x.ticksToValley());
        Check.due("not the greatest below the first one that fails", 18, x.mostFriction());
        Check.due("the friction is not set", 19, x.value(4));
    }

    private static void frictionThatDoesNotNow() {
        Check.sentence("Promise 17", "(that does not now)");
        BlockCoaster x = Rides.on("0b9.0b0.0b0b");
        x.set(1, 1);
        x.addTrain(0);
        x.pass(20);
        Check.due("it will lie", -1, x.mostFriction());
        x.pass(1);
        Check.due("it lies", 20, x.mostFriction());
        x.set(3, 40);
        x.addTrain(1);
        Check.due("another one has two cells to go: 25 - 2 * (10 + 2)", 10, x.mostFriction());
    }

    private static void squareNoCell() {
        Check.sentence("Promise 18", "Throws `IndexOutOfBoundsException` if there is no such cell");
        for (int cells : new int[] {4, 14, 30}) {
            BlockCoaster x = Rides.on("0b0b" + "0.".repeat(cells - 2));
            for (int wrong : new int[] {-1, cells, cells + 1, MIN, MAX}) {
                Check.refused(x, "leastSquare(" + wrong + ") of " + cells, INDEX, () -> x.leastSquare(wrong));
            }
            Check.due("the least cell", 0, x.leastSquare(0));
            Check.due("the greatest cell", 3, x.leastSquare(cells - 1));
        }
    }

    private static void squareOfABrakeCell() {
        Check.sentence("Promise 18", "0 for a brake cell.");
        BlockCoaster x = Rides.on("0b9b0b9.");
        x.set(0, 20);
        Check.due("each one", "0 0 0", x.leastSquare(0) + " " + x.leastSquare(1) + " " + x.leastSquare(2));
        Check.due("a hill behind it does not matter", 0, x.leastSquare(2));
    }

    private static void squareBeginsWithZero() {
        Check.sentence("Promise 18", "(also 0 on the cell itself lets it begin, whatever kind of cell that is)");
        BlockCoaster x = Rides.on("1.0b1l0b");
        Check.due("a plain cell", 0, x.leastSquare(0));
        Check.due("a lift cell", 0, x.leastSquare(2));
        x.set(0, 0);
        x.setHeight(0, 0);
        x.setHeight(2, 0);
        Check.due("a plain cell, level, without friction", 0, x.leastSquare(0));
        Check.due("a lift cell, level, without friction", 0, x.leastSquare(2));
        x.set(0, 1);
        Check.due("a plain cell with friction", 1, x.leastSquare(0));
        Check.due("a lift cell with friction", 1, x.leastSquare(2));
    }

    private static void squareOfOneCell() {
        Check.sentence("Promise 18", "would come to the brake of the block, cell by cell as told above.");
        BlockCoaster x = Rides.on("0b0.0b0.");
        for (int friction : new int[] {0, 1, 20}) {
            x.set(0, friction);
            x.setHeight(1, 0);
            Check.due("level, friction " + friction, friction, x.leastSquare(1));
            x.setHeight(2, 1);
            Check.due("one up, friction " + friction, 100 + friction, x.leastSquare(1));
            x.setHeight(2, 9);
            Check.due("nine up, friction " + friction, 900 + friction, x.leastSquare(1));
            x.setHeight(2, 0);
            x.setHeight(1, 1);
            Check.due("one down, friction " + friction, 0, x.leastSquare(1));
        }
    }

    private static void squareOfAValley() {
        Check.sentence("Promise 18", "would come to the brake of the block, cell by cell as told above.");
        BlockCoaster x = Rides.on("0b5.0.0b");
        Check.due("3 is left at a brake cell", 3, x.leastSquare(2));
        Check.due("down to a plain cell", 0, x.leastSquare(1));
        x.set(0, 0);
        x.setHeight(1, 0);
        Check.due("a square of 0 lies on a plain cell", 1, x.leastSquare(1));
        x.setHeight(2, 1);
        Check.due("on a hill it must be 1", 101, x.leastSquare(1));
        x.setHeight(3, 1);
        Check.due("on a level with the brake", 101, x.leastSquare(1));
        x.setHeight(3, 2);
        Check.due("below the brake", 200, x.leastSquare(1));
    }

    private static void squareOfALift() {
        Check.sentence("Promise 18", "would come to the brake of the block, cell by cell as told above.");
        BlockCoaster x = Rides.on("0b0.9l9.0b");
        Check.due("a lift takes any square", 0, x.leastSquare(1));
        Check.due("the lift itself", 4, x.leastSquare(2));
        x.set(0, 20);
        Check.due("25 - 20", 0, x.leastSquare(1));
        Check.due("the lift itself", 21, x.leastSquare(2));
        BlockCoaster y = Rides.on("0b0.0l0.0.0b");
        y.set(0, 8);
        Check.due("25 - 3 * 8", 0, y.leastSquare(1));
        Check.due("the lift itself", 24, y.leastSquare(2));
        y.set(0, 9);
        Check.due("25 - 3 * 9", -1, y.leastSquare(1));
        Check.due("the lift itself", 27, y.leastSquare(2));
        BlockCoaster z = Rides.on("0b0.0l0.0.0.0b");
        z.set(0, 6);
        Check.due("25 - 4 * 6", 0, z.leastSquare(1));
        z = Rides.on("0b0.0l0.0.0.0.0.0b");
        z.set(0, 5);
        Check.due("25 - 5 * 5 is 0 on a plain cell", -1, z.leastSquare(1));
        z = Rides.on("0b0.0l0.0.0.0.0b");
        z.set(0, 5);
        Check.due("25 - 5 * 5 is 0 at a brake", 0, z.leastSquare(1));
    }

    private static void squareNone() {
        Check.sentence("Promise 18", "NONE if there is none");
        BlockCoaster x = Rides.on("0b9.9l0.0.0l1b");
        for (int cell = 1; cell <= 4; cell++) {
            Check.due("25 is too little behind the lift, cell " + cell, -1, x.leastSquare(cell));
        }
        Check.due("on the lift itself", 103, x.leastSquare(5));
    }

    private static void squareGreatest() {
        Check.sentence("Promise 18", "Returns the least square, 0 to 9999");
        BlockCoaster x = Rides.on("0b" + "0.".repeat(28) + "9b");
        x.set(0, 20);
        Check.due("28 cells to go, and nine up", 28 * 20 + 900, x.leastSquare(1));
        Check.due("from the next one", 27 * 20 + 900, x.leastSquare(2));
        BlockCoaster y = Rides.on("9b" + "9.".repeat(28) + "0b");
        y.set(0, 20);
        Check.due("down at the end", 27 * 20 + 1, y.leastSquare(1));
    }

    private static void squareAcrossTheEnd() {
        Check.sentence("Promise 18, Terms", "the block that ends at the first brake cell begins behind the last one");
        BlockCoaster x = Rides.on("0.3b0b0.");
        Check.due("from the last cell", 306, x.leastSquare(3));
        Check.due("from the first cell", 303, x.leastSquare(0));
        BlockCoaster y = Rides.on("0b0b" + "0.".repeat(28));
        Check.due("from the first of 29", 28 * 3, y.leastSquare(2));
        Check.due("from the last cell", 3, y.leastSquare(29));
    }

    private static void squareWithTheFrictionAlone() {
        Check.sentence("Promise 18", "with a drag that is the friction alone");
        BlockCoaster x = Rides.on("0b0.0.0b");
        x.set(3, 0);
        x.addTrain(0);
        x.pass(25);
        Check.due("a cold train does not matter", 6, x.leastSquare(1));
        x.set(0, 20);
        Check.due("the friction does", 40, x.leastSquare(1));
        x.set(0, 0);
        Check.due("none", 1, x.leastSquare(1));
    }

    private static void meanWithoutTrains() {
        Check.sentence("Promise 19", "0.0 without trains.");
        BlockCoaster x = new BlockCoaster();
        x.set(3, 40);
        Check.due("none", 0.0, x.meanWarmth());
        x.addTrain(0);
        x.takeTrain();
        Check.due("none any more", 0.0, x.meanWarmth());
    }

    private static void meanOfAll() {
        Check.sentence("Promise 19", "Returns the sum of the warmths, converted to double, divided by their number,"
                + " converted to double");
        BlockCoaster x = Rides.on("0b".repeat(8));
        x.set(3, 1);
        x.addTrain(0);
        Check.due("1", 1.0, x.meanWarmth());
        x.set(3, 0);
        x.addTrain(2);
        Check.due("1 / 2", 0.5, x.meanWarmth());
        x.addTrain(4);
        Check.due("1 / 3", 1.0 / 3.0, x.meanWarmth());
        x.set(3, 40);
        x.addTrain(6);
        Check.due("41 / 4", 10.25, x.meanWarmth());
        x.takeTrain();
        Check.due("1 / 3 again", 1.0 / 3.0, x.meanWarmth());
    }

    private static void questionsChangeNothing() {
        Check.sentence("Promise 23, Terms", "Each successful call of a method whose description says \"undoable\"");
        BlockCoaster x = Rides.on("0b0.0.0b0b");
        x.addTrain(0);
        x.pass(30);
        long before = x.digest();
        x.ticksToStation(0);
        Check.due("ticksToStation", before, x.digest());
        x.ticksToValley();
        Check.due("ticksToValley", before, x.digest());
        x.dispatchesWith(500);
        Check.due("dispatchesWith", before, x.digest());
        x.mostFriction();
        Check.due("mostFriction", before, x.digest());
        x.leastSquare(1);
        Check.due("leastSquare", before, x.digest());
        x.meanWarmth();
        Check.due("meanWarmth", before, x.digest());
        Check.due("none of them is undoable", 2, x.undo());
    }
}
