/** Promises 14 to 19: ticksToStation, ticksToValley, dispatchesWith, mostFriction, leastSquare, meanWarmth. */
public final class WhatIfTest {
    private static final Class<IndexOutOfBoundsException> INDEX = IndexOutOfBoundsException.class;
    private static final Class<IllegalArgumentException> ARGUMENT = IllegalArgumentException.class;
    private static final int MIN = Integer.MIN_VALUE;
    private static final int MAX = Integer.MAX_VALUE;

    public static void main(String[] args) {
        ticksToStation();
        stationIn2000Ticks();
        ticksToValley();
        valleyIn2000Ticks();
        dispatchesWith();
        mostFriction();
        frictionIn500Ticks();
        leastSquare();
        leastSquareRefused();
        meanWarmth();
        questionsChangeNothing();
        Check.finish("WhatIfTest");
    }

    private static void ticksToStation() {
        BlockCoaster x = Rides.on("0b0b0b0b");
        x.set(1, 1);
        x.addTrain(0);
        Check.due("14: it has to come again", 84, x.ticksToStation(0));
        x.pass(10);
        Check.due("14: on its way", 74, x.ticksToStation(0));
        x.pass(73);
        Check.due("14: the next tick", 1, x.ticksToStation(0));
        x.pass(1);
        Check.due("14: again", 84, x.ticksToStation(0));
        x.set(1, 10);
        Check.due("14: a longer dwell", 93, x.ticksToStation(0));
        x.pass(6);
        Check.due("14: it has stood for a while", 87, x.ticksToStation(0));
        for (int wrong : new int[] {-1, 1, MIN, MAX}) {
            Check.dueThrow("14: ticksToStation(" + wrong + ")", INDEX, () -> x.ticksToStation(wrong));
        }
        BlockCoaster y = Rides.on("0b9.0b0.");
        y.addTrain(0);
        y.addTrain(1);
        Check.due("14: never", -1, y.ticksToStation(0));
        Check.due("14: each waits for the other", -1, y.ticksToStation(1));
        y.takeTrain();
        y.pass(30);
        Check.due("14: it lies", -1, y.ticksToStation(0));
    }

    private static void stationIn2000Ticks() {
        Check.due("14: 2000 ticks", 2000, Rides.releasedIn(Rides.slowTrack(0), 279).ticksToStation(0));
        Check.due("14: 2001 ticks", -1, Rides.releasedIn(Rides.slowTrack(0), 280).ticksToStation(0));
    }

    private static void ticksToValley() {
        BlockCoaster x = Rides.on("0b9.0b0.");
        Check.due("15: no train", -1, x.ticksToValley());
        x.addTrain(0);
        Check.due("15: released in 5 ticks, 20 more", 25, x.ticksToValley());
        x.pass(24);
        Check.due("15: the next tick", 1, x.ticksToValley());
        x.pass(1);
        Check.due("15: one that lies now does not count", -1, x.ticksToValley());
        BlockCoaster y = Rides.on("0b0.0b0b9.");
        y.addTrain(2);
        y.pass(30);
        y.addTrain(0);
        y.setHeight(1, 9);
        Check.due("15: one lies", 1, y.value(10));
        Check.due("15: another one will", 25, y.ticksToValley());
    }

    private static void valleyIn2000Ticks() {
        Check.due("15: 2000 ticks", 2000, Rides.releasedIn(Rides.slowTrack(9), 300).ticksToValley());
        Check.due("15: 2001 ticks", -1, Rides.releasedIn(Rides.slowTrack(9), 301).ticksToValley());
    }

    private static void dispatchesWith() {
        BlockCoaster x = Rides.on("0b0b0b0b");
        x.set(1, 1);
        Check.due("16: no train", 0, x.dispatchesWith(0));
        x.addTrain(0);
        Check.due("16: as often as it comes", 12, x.dispatchesWith(0));
        Check.due("16: gap 100", 10, x.dispatchesWith(100));
        Check.due("16: gap 500", 2, x.dispatchesWith(500));
        Check.due("16: the gap is not set", 0, x.value(6));
        x.pass(8);
        Check.due("16: the 1001st tick is behind", 11, x.dispatchesWith(0));
        x.pass(1);
        Check.due("16: the 1000th tick is in them", 12, x.dispatchesWith(0));
        for (int wrong : new int[] {-1, 501, MIN, MAX}) {
            Check.dueThrow("16: dispatchesWith(" + wrong + ")", ARGUMENT, () -> x.dispatchesWith(wrong));
        }
    }

    private static void mostFriction() {
        BlockCoaster x = Rides.on("0b0.0.0b");
        Check.due("17: no train", 20, x.mostFriction());
        x.addTrain(0);
        Check.due("17: three times the drag is at most 25", 4, x.mostFriction());
        Check.due("17: the friction is not set", 3, x.value(4));
        x.set(3, 0);
        x.takeTrain();
        x.addTrain(0);
        Check.due("17: a colder train", 2, x.mostFriction());
        BlockCoaster y = Rides.on("0b9.0b0.");
        y.addTrain(0);
        Check.due("17: there is none", -1, y.mostFriction());
        y.pass(25);
        Check.due("17: one that lies now does not count", 20, y.mostFriction());
        BlockCoaster z = Rides.on("0b0.0.0.0b");
        z.set(3, 0);
        z.addTrain(0);
        Check.due("17: friction 0", 0, z.mostFriction());
    }

    private static void frictionIn500Ticks() {
        Check.due("17: in tick 500", -1, Rides.releasedIn("0b9.0b0.", 480).mostFriction());
        Check.due("17: in tick 501", 20, Rides.releasedIn("0b9.0b0.", 481).mostFriction());
    }

    private static void leastSquare() {
        BlockCoaster x = Rides.on("0b0.0.0b0.9.0l0.5.");
        Check.due("18: a brake cell", 0, x.leastSquare(0));
        Check.due("18: a brake cell", 0, x.leastSquare(3));
        Check.due("18: square 0 stands at a brake", 6, x.leastSquare(1));
        Check.due("18: one cell", 3, x.leastSquare(2));
        Check.due("18: whatever comes to the lift leaves it with 25", -1, x.leastSquare(4));
        Check.due("18: into the lift", -1, x.leastSquare(5));
        Check.due("18: square 0 is a valley on a plain cell", 507, x.leastSquare(6));
        Check.due("18: up", 504, x.leastSquare(7));
        Check.due("18: down, across the end", 0, x.leastSquare(8));
        x.setHeight(8, 0);
        Check.due("18: any square reaches the lift down a hill", 0, x.leastSquare(5));
        Check.due("18: up to the lift's foot", 904, x.leastSquare(4));
        x.set(0, 0);
        Check.due("18: no friction", 0, x.leastSquare(2));
        Check.due("18: square 0 is a valley on the cell behind", 1, x.leastSquare(1));
        x.set(0, 20);
        Check.due("18: the friction", 40, x.leastSquare(1));
        x.setHeight(3, 9);
        Check.due("18: the highest brake", 920, x.leastSquare(2));
        x.set(3, 0);
        x.addTrain(1);
        Check.due("18: neither trains nor the air matter", 920, x.leastSquare(2));
        leastSquareFromLift();
    }

    private static void leastSquareFromLift() {
        BlockCoaster x = Rides.on("0b0.0l9.0b0.");
        Check.due("18: a lift cell may have 0 and more", 904, x.leastSquare(2));
        Check.due("18: from the hill", 0, x.leastSquare(3));
        Check.due("18: the lift sets it to 25", -1, x.leastSquare(1));
        Check.due("18: the last cell, across the end", 3, x.leastSquare(5));
    }

    private static void leastSquareRefused() {
        BlockCoaster x = new BlockCoaster();
        for (int wrong : new int[] {-1, 14, MIN, MAX}) {
            Check.dueThrow("18: leastSquare(" + wrong + ")", INDEX, () -> x.leastSquare(wrong));
        }
    }

    private static void meanWarmth() {
        BlockCoaster x = new BlockCoaster();
        Check.due("19: no train", 0.0, x.meanWarmth());
        x.addTrain(0);
        Check.due("19: one", 20.0, x.meanWarmth());
        x.set(3, 33);
        x.addTrain(1);
        Check.due("19: half", 26.5, x.meanWarmth());
        x.addTrain(2);
        Check.due("19: a third", 86.0 / 3.0, x.meanWarmth());
        x.set(3, 0);
        x.pass(33);
        x.takeTrain();
        x.takeTrain();
        Check.due("19: cold", 0.0, x.meanWarmth());
        x.set(3, 40);
        x.addTrain(2);
        x.takeTrain();
        Check.due("19: one that was taken does not count", 0.0, x.meanWarmth());
        x.addTrain(1);
        x.addTrain(2);
        x.addTrain(3);
        Check.due("19: four", 30.0, x.meanWarmth());
    }

    private static void questionsChangeNothing() {
        BlockCoaster x = new BlockCoaster();
        x.addTrain(0);
        x.addTrain(2);
        x.pass(77);
        long before = x.digest();
        x.ticksToStation(1);
        x.ticksToValley();
        x.dispatchesWith(300);
        x.mostFriction();
        x.leastSquare(7);
        x.meanWarmth();
        Check.due("14 to 19: nothing changed", before, x.digest());
        Check.due("14 to 19: not undoable", 2, x.undo());
    }
}
