/** Promise 7: pass, with what a tick does. */
public final class PassTest {
    private static final Class<IllegalArgumentException> ARGUMENT = IllegalArgumentException.class;
    private static final Class<IllegalStateException> STATE = IllegalStateException.class;

    public static void main(String[] args) {
        range();
        limit();
        dwellAndDispatch();
        gap();
        wheels();
        lift();
        brakeTakesSquareZero();
        order();
        squareIsAtMost9999();
        Check.finish("PassTest");
    }

    private static void range() {
        BlockCoaster x = new BlockCoaster();
        long before = x.digest();
        for (int wrong : new int[] {0, -1, 501, Integer.MIN_VALUE, Integer.MAX_VALUE}) {
            Check.dueThrow("7: pass(" + wrong + ")", ARGUMENT, () -> x.pass(wrong));
        }
        Check.due("7: nothing changed", before, x.digest());
        Check.due("7: one tick", 0, x.pass(1));
        Check.due("7: ticks", 1, x.value(3));
        Check.due("7: 500 ticks", 0, x.pass(500));
        Check.due("7: ticks", 501, x.value(3));
        Check.due("7: undoable", 1, x.undo());
        Check.due("7: undone", 1, x.value(3));
    }

    private static void limit() {
        BlockCoaster x = Rides.on("0b0b0b0b");
        x.set(1, 1);
        x.addTrain(0);
        Rides.pass(x, 99900);
        Check.dueThrow("7: 100001 ticks", STATE, () -> x.pass(101));
        Check.due("7: unchanged", 99900, x.value(3));
        x.pass(99);
        Check.dueThrow("7: 100001 ticks", STATE, () -> x.pass(2));
        x.pass(1);
        Check.due("7: 100000 ticks", 100000, x.value(3));
        long before = x.digest();
        Check.dueThrow("7: full", STATE, () -> x.pass(1));
        Check.dueThrow("7: the range comes first", ARGUMENT, () -> x.pass(501));
        Check.dueThrow("7: the range comes first", ARGUMENT, () -> x.pass(0));
        Check.due("7: nothing changed", before, x.digest());
        Check.due("7: a dispatch in 84 ticks", 1191, x.value(8));
        Check.due("7: cells moved", 4761, x.train(0, 8));
        // The latest dispatch was in tick 99960; the train comes again 83 ticks later.
        Check.due("14: the limit does not matter", 44, x.ticksToStation(0));
        Check.due("16: the limit does not matter", 12, x.dispatchesWith(0));
    }

    private static void dwellAndDispatch() {
        BlockCoaster x = new BlockCoaster();
        x.addTrain(0);
        Check.due("7: dwell", 0, x.pass(4));
        Check.due("7: stands", "0 0 0 0 20 1 4 7 0 0 5", Rides.train(x, 0));
        Check.due("7: released", 1, x.pass(1));
        Check.due("7: runs, and has not moved", "0 0 25 0 20 0 0 7 0 0 0", Rides.train(x, 0));
        Check.due("7: the tick ahead of which 4 had passed", 4, x.dispatch(0, 0));
        Check.due("7: no second dispatch", 0, x.pass(19));
        Check.due("7: speed 5", "0 0 25 95 20 0 0 7 0 0 0", Rides.train(x, 0));
        x.pass(1);
        Check.due("7: on the lift", "1 1 25 0 20 0 0 7 1 0 0", Rides.train(x, 0));
    }

    private static void gap() {
        BlockCoaster x = Rides.on("0b0b0b0b");
        x.set(1, 1);
        x.set(2, 100);
        x.addTrain(0);
        Check.due("7: without a dispatch the gap does not matter", 1, x.pass(1));
        x.pass(83);
        Check.due("7: at the station", "0 0 0 0 20 1 0 7 4 1 4", Rides.train(x, 0));
        Check.due("7: the gap is not over", 0, x.pass(16));
        Check.due("7: stands", "0 0 0 0 20 1 16 7 4 1 5", Rides.train(x, 0));
        Check.due("7: the gap is over", 1, x.pass(1));
        Check.due("7: tick of the dispatch", 100, x.value(9));
        x.takeTrain();
        x.addTrain(0);
        Check.due("7: the dispatch of a train that was taken counts", 0, x.pass(99));
        Check.due("7: the gap is over", 1, x.pass(1));
    }

    private static void wheels() {
        BlockCoaster x = Rides.on("9b0.0b0.");
        x.set(1, 1);
        x.addTrain(0);
        x.pass(20);
        Check.due("7: a slow train stays cold", "0 0 25 95 20 0 0 7 0 0 0", Rides.train(x, 0));
        x.pass(1);
        Check.due("7: down the hill", "1 1 918 0 22 0 0 6 1 0 0", Rides.train(x, 0));
        x.pass(1);
        Check.due("7: warmer by 3, nearer to the air by 1", "1 1 918 30 24 0 0 6 1 0 0", Rides.train(x, 0));
        x.pass(2);
        Check.due("7: warmer", "1 1 918 90 28 0 0 6 1 0 0", Rides.train(x, 0));
        x.pass(1);
        Check.due("7: a brake stops it", "2 1 0 0 27 1 0 6 2 0 5", Rides.train(x, 0));
        x.set(3, 40);
        x.pass(1);
        Check.due("7: nearer to a warmer air", 28, x.train(0, 4));
        BlockCoaster y = Rides.on("8b0.0b0.");
        y.set(1, 1);
        y.addTrain(0);
        y.pass(21);
        Check.due("7: speed 28 warms by 2", "1 1 818 0 21 0 0 6 1 0 0", Rides.train(y, 0));
    }

    private static void lift() {
        BlockCoaster x = Rides.on("9b0.9l0.0b0.");
        x.set(1, 1);
        x.addTrain(0);
        x.pass(25);
        Check.due("7: a lift takes each height", "2 1 25 20 27 0 0 6 2 0 0", Rides.train(x, 0));
        x.pass(15);
        Check.due("7: 5 on the lift", "2 1 25 95 20 0 0 7 2 0 0", Rides.train(x, 0));
        x.pass(1);
        Check.due("7: from the lift", "3 1 918 0 22 0 0 6 3 0 0", Rides.train(x, 0));
    }

    private static void brakeTakesSquareZero() {
        BlockCoaster x = Rides.on("0b0.0.0.0.0b");
        x.set(0, 1);
        x.addTrain(0);
        x.pass(200);
        Check.due("7: square 0 on a brake cell stands, and goes on", 0, x.value(10));
        Check.due("7: square 0 on a brake cell is no valley", true, x.train(0, 8) >= 5);
    }

    private static void order() {
        BlockCoaster x = Rides.on("0b0b0b0b");
        x.addTrain(3);
        x.addTrain(2);
        x.pass(20);
        Check.due("7: not yet free", 2, x.why(1));
        x.pass(1);
        Check.due("7: train 0 came to the station", "0 0 0 0 20 1 0 7 1 1 3", Rides.train(x, 0));
        Check.due("7: by all as it is by then", 0, x.train(1, 5));
        BlockCoaster y = Rides.on("0b0b0b0b");
        y.addTrain(2);
        y.addTrain(3);
        y.pass(21);
        Check.due("7: train 0 looked ahead of train 1", 1, y.train(0, 5));
        y.pass(1);
        Check.due("7: one tick later", 0, y.train(0, 5));
    }

    /** Under the train each cell is raised, so that it falls again and again. */
    private static void squareIsAtMost9999() {
        StringBuilder track = new StringBuilder("9b");
        for (int i = 0; i < 28; i++) {
            track.append("0.");
        }
        BlockCoaster x = Rides.on(track.append("0b").toString());
        x.set(0, 0);
        x.set(3, 40);
        x.set(1, 1);
        x.addTrain(0);
        x.pass(21);
        int expected = 25 + 900 - 2;
        int warmest = 0;
        for (int cell = 1; cell < 28; cell++) {
            Check.due("7: cell", cell, x.train(0, 0));
            Check.due("7: square", expected, x.train(0, 2));
            x.setHeight(cell, 9);
            int drag = x.train(0, 7);
            for (int ticks = 0; ticks < 100 && x.train(0, 0) == cell; ticks++) {
                drag = x.train(0, 7);
                x.pass(1);
                warmest = Math.max(warmest, x.train(0, 4));
            }
            expected = Math.min(9999, expected + 900 - drag);
        }
        Check.due("7: the greatest square", 9999, expected);
        Check.due("7: the wheels are 100 warm, then nearer to the air", 99, warmest);
        Check.due("7: a warm train has no more drag than the friction", 0, x.train(0, 7));
    }
}
