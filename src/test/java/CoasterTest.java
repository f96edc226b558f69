/** Promises 1 to 6: a new object, addTrain, takeTrain, rescue, set, setHeight. */
public final class CoasterTest {
    private static final String FIRST = "0b1l3l5l7l7b4.1.3.2.4b2.1.0b";
    private static final Class<IndexOutOfBoundsException> INDEX = IndexOutOfBoundsException.class;
    private static final Class<IllegalArgumentException> ARGUMENT = IllegalArgumentException.class;
    private static final Class<IllegalStateException> STATE = IllegalStateException.class;
    private static final int MIN = Integer.MIN_VALUE;
    private static final int MAX = Integer.MAX_VALUE;

    public static void main(String[] args) {
        newObject();
        addTrain();
        addTrainRefused();
        addTrainBehindReleasedTrain();
        takeTrain();
        rescue();
        rescueOnBrakeCell();
        set();
        setRefused();
        setHeight();
        Check.finish("CoasterTest");
    }

    private static void newObject() {
        BlockCoaster x = new BlockCoaster();
        Check.due("1: values", "14 4 0 0 3 5 0 20 0 -1 0 7", Rides.values(x));
        int[] blocks = {0, 1, 1, 1, 1, 1, 2, 2, 2, 2, 2, 3, 3, 3};
        for (int cell = 0; cell < 14; cell++) {
            int height = FIRST.charAt(2 * cell) - '0';
            int kind = ".lb".indexOf(FIRST.charAt(2 * cell + 1));
            Check.due("1: cell " + cell, height + " " + kind + " " + blocks[cell] + " -1", Rides.cell(x, cell));
        }
        Check.due("1: block 0", "0 0 1 -1 0", Rides.block(x, 0));
        Check.due("1: block 1", "1 5 5 -1 0", Rides.block(x, 1));
        Check.due("1: block 2", "6 10 5 -1 0", Rides.block(x, 2));
        Check.due("1: block 3", "11 13 3 -1 0", Rides.block(x, 3));
        Check.dueThrow("1: nothing is saved", STATE, x::undo);
        Check.due("1: the text is empty", 0, x.clearText());
        Check.dueThrow("1: no dispatch", INDEX, () -> x.dispatch(0, 0));
        Check.due("1: no train is warm", 0.0, x.meanWarmth());
    }

    private static void addTrain() {
        BlockCoaster x = new BlockCoaster();
        Check.due("2: first", 0, x.addTrain(2));
        x.set(3, 33);
        Check.due("2: second", 1, x.addTrain(0));
        Check.due("2: third", 2, x.addTrain(3));
        Check.due("2: fourth", 3, x.addTrain(1));
        Check.due("2: train 0", "10 2 0 0 20 1 0 7 0 0 2", Rides.train(x, 0));
        Check.due("2: train 1 has the warmth of the air", "0 0 0 0 33 1 0 5 0 0 2", Rides.train(x, 1));
        Check.due("2: train 3", "5 1 0 0 33 1 0 5 0 0 2", Rides.train(x, 3));
        Check.due("2: trains", 4, x.value(2));
        Check.due("2: undoable", 4, x.undo() + 1);
        Check.due("2: trains after undo", 3, x.value(2));
    }

    private static void addTrainRefused() {
        BlockCoaster x = Rides.on("0b0b0b0b0b0.");
        for (int wrong : new int[] {-1, 5, MIN, MAX}) {
            Check.dueThrow("2: addTrain(" + wrong + ")", INDEX, () -> x.addTrain(wrong));
        }
        x.addTrain(0);
        Check.dueThrow("2: a train in the block", STATE, () -> x.addTrain(0));
        x.addTrain(1);
        x.addTrain(2);
        x.addTrain(4);
        long before = x.digest();
        Check.dueThrow("2: a fifth train", STATE, () -> x.addTrain(3));
        Check.dueThrow("2: no such block comes first", INDEX, () -> x.addTrain(5));
        Check.due("2: nothing changed", before, x.digest());
        x.takeTrain();
        Check.due("2: there is room again", 3, x.addTrain(3));
    }

    private static void addTrainBehindReleasedTrain() {
        BlockCoaster x = Rides.on("0b9.0b0.");
        x.addTrain(0);
        Check.due("2: a standing train keeps nothing else", 1, x.addTrain(1));
        x.takeTrain();
        x.pass(5);
        Check.due("2: just released", 0, x.train(0, 5));
        Check.dueThrow("2: the block ahead of a released train", STATE, () -> x.addTrain(1));
        x.pass(19);
        Check.dueThrow("2: still on the brake cell", STATE, () -> x.addTrain(1));
        x.pass(1);
        Check.due("2: lies on the brake cell", "0 0 0 0 20 2 0 7 0 0 1", Rides.train(x, 0));
        Check.due("2: free again", 1, x.addTrain(1));
    }

    private static void takeTrain() {
        BlockCoaster x = new BlockCoaster();
        Check.dueThrow("3: none", STATE, x::takeTrain);
        x.addTrain(0);
        x.addTrain(2);
        x.pass(30);
        Check.due("3: left", 1, x.takeTrain());
        Check.due("3: trains", 1, x.value(2));
        Check.dueThrow("3: the greatest number is gone", INDEX, () -> x.train(1, 0));
        Check.due("3: its block is empty", -1, x.block(2, 3));
        Check.due("3: left", 0, x.takeTrain());
        Check.due("3: its dispatches stay", "1 4 4 0",
                x.value(8) + " " + x.value(9) + " " + x.dispatch(0, 0) + " " + x.dispatch(0, 1));
        Check.dueThrow("3: none is left", STATE, x::takeTrain);
        Check.due("3: a new train has counted nothing", 0, x.addTrain(0));
        Check.due("3: new train", "0 0 0 0 20 1 0 7 0 0 3", Rides.train(x, 0));
        x.undo();
        Check.due("3: undoable", 3, x.undo() + 1);
        Check.due("3: back", 1, x.value(2));
        newTrainBeginsAnew();
    }

    private static void newTrainBeginsAnew() {
        BlockCoaster x = Rides.on("0b0b0b0b");
        x.addTrain(3);
        x.pass(24);
        Check.due("2: it has stood, moved and come to the station", "0 0 0 0 20 1 3 7 1 1 3", Rides.train(x, 0));
        x.takeTrain();
        x.addTrain(0);
        Check.due("2: the next one has not", "0 0 0 0 20 1 0 7 0 0 3", Rides.train(x, 0));
    }

    private static void rescue() {
        BlockCoaster x = Rides.on("0b0.0.0.0.0.0b0.");
        x.set(0, 1);
        x.addTrain(0);
        x.addTrain(1);
        Check.dueThrow("4: it stands", STATE, () -> x.rescue(0));
        for (int wrong : new int[] {-1, 2, MIN, MAX}) {
            Check.dueThrow("4: rescue(" + wrong + ")", INDEX, () -> x.rescue(wrong));
        }
        x.takeTrain();
        x.pass(10);
        Check.dueThrow("4: it runs", STATE, () -> x.rescue(0));
        x.pass(200);
        Check.due("4: square 0 is a valley", "5 1 0 0 20 2 0 5 5 0 1", Rides.train(x, 0));
        Check.due("4: cell on which it lay", 5, x.rescue(0));
        Check.due("4: it stands at the brake", "6 1 0 0 20 1 0 5 5 0 5", Rides.train(x, 0));
        Check.due("4: not moved to the brake", 0, x.block(1, 4));
        Check.dueThrow("4: no longer in a valley", STATE, () -> x.rescue(0));
        x.undo();
        Check.due("4: undone", "5 1 0 0 20 2 0 5 5 0 1", Rides.train(x, 0));
        rescueAcrossTheEnd();
    }

    private static void rescueAcrossTheEnd() {
        BlockCoaster x = Rides.on("0.0b0b0.9.0.");
        x.addTrain(1);
        x.pass(100);
        Check.due("4: lies ahead of the hill", "3 0 0 0 20 2 0 7 1 0 1", Rides.train(x, 0));
        Check.due("4: lay", 3, x.rescue(0));
        Check.due("4: stands at the station, no visit", "1 0 0 0 20 1 0 7 1 0 3", Rides.train(x, 0));
    }

    private static void rescueOnBrakeCell() {
        BlockCoaster x = Rides.on("0b9.0b0.");
        x.addTrain(0);
        x.pass(25);
        Check.due("4: on the brake cell", 0, x.rescue(0));
        Check.due("4: stands where it lay", "0 0 0 0 20 1 0 7 0 0 3", Rides.train(x, 0));
    }

    private static void set() {
        BlockCoaster x = new BlockCoaster();
        int[] first = {3, 5, 0, 20};
        int[] least = {0, 1, 0, 0};
        int[] greatest = {20, 50, 500, 40};
        for (int what = 0; what < 4; what++) {
            Check.due("5: first of " + what, first[what], x.set(what, greatest[what]));
            Check.due("5: greatest of " + what, greatest[what], x.value(4 + what));
            Check.due("5: previous of " + what, greatest[what], x.set(what, least[what]));
            Check.due("5: least of " + what, least[what], x.value(4 + what));
        }
        Check.due("5: undoable", 3, x.undo());
        Check.due("5: undone", 40, x.value(7));
        x.set(3, 40);
        Check.due("5: saved without a change", 3, x.undo());
    }

    private static void setRefused() {
        BlockCoaster x = new BlockCoaster();
        long before = x.digest();
        int[][] wrong = {{0, -1}, {0, 21}, {1, 0}, {1, 51}, {1, -1}, {2, -1}, {2, 501}, {3, -1}, {3, 41},
            {0, MIN}, {1, MAX}, {2, MIN}, {3, MAX}};
        for (int[] w : wrong) {
            Check.dueThrow("5: set(" + w[0] + ", " + w[1] + ")", ARGUMENT, () -> x.set(w[0], w[1]));
        }
        for (int what : new int[] {-1, 4, MIN, MAX}) {
            Check.dueThrow("5: set(" + what + ", 1)", INDEX, () -> x.set(what, 1));
            Check.dueThrow("5: set(" + what + ", -1)", INDEX, () -> x.set(what, -1));
        }
        Check.due("5: nothing changed", before, x.digest());
    }

    private static void setHeight() {
        BlockCoaster x = new BlockCoaster();
        Check.due("6: previous", 4, x.setHeight(6, 9));
        Check.due("6: now", "9 0 2 -1", Rides.cell(x, 6));
        Check.due("6: highest", 9, x.value(11));
        Check.due("6: lowest", 9, x.setHeight(6, 0));
        Check.due("6: last cell", 0, x.setHeight(13, 1));
        long before = x.digest();
        for (int wrong : new int[] {-1, 14, MIN, MAX}) {
            Check.dueThrow("6: setHeight(" + wrong + ", 0)", INDEX, () -> x.setHeight(wrong, 0));
            Check.dueThrow("6: setHeight(" + wrong + ", 10)", INDEX, () -> x.setHeight(wrong, 10));
        }
        for (int wrong : new int[] {-1, 10, MIN, MAX}) {
            Check.dueThrow("6: setHeight(0, " + wrong + ")", ARGUMENT, () -> x.setHeight(0, wrong));
        }
        Check.due("6: nothing changed", before, x.digest());
        BlockCoaster y = Rides.on("9b0b0.8.");
        Check.due("11: the first cell is the highest", 9, y.value(11));
        y.setHeight(0, 1);
        Check.due("11: the last cell is the highest", 8, y.value(11));
        Check.due("6: undoable", 2, x.undo());
        Check.due("6: undone", 0, x.cell(13, 0));
    }
}
