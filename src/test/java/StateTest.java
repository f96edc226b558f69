/** Promises 23 and 24: undo and digest; and that a call that throws changes nothing. */
public final class StateTest {
    private static final Class<IllegalStateException> STATE = IllegalStateException.class;

    public static void main(String[] args) {
        undo();
        fourAtMost();
        undoBringsAllBack();
        undoLeavesTheText();
        whatIsNotSaved();
        digest();
        throwingChangesNothing();
        twoCoasters();
        Check.finish("StateTest");
    }

    private static void undo() {
        BlockCoaster x = new BlockCoaster();
        Check.dueThrow("23: nothing saved", STATE, x::undo);
        x.set(0, 7);
        x.set(0, 8);
        x.set(0, 9);
        Check.due("23: two remain", 2, x.undo());
        Check.due("23: the latest one", 8, x.value(4));
        Check.due("23: one remains", 1, x.undo());
        x.set(0, 11);
        Check.due("23: saved again", 1, x.undo());
        Check.due("23: value", 7, x.value(4));
        Check.due("23: none remains", 0, x.undo());
        Check.due("23: the first one", 3, x.value(4));
        Check.dueThrow("23: nothing left", STATE, x::undo);
    }

    private static void fourAtMost() {
        BlockCoaster x = new BlockCoaster();
        for (int friction = 10; friction <= 19; friction++) {
            x.set(0, friction);
        }
        for (int left = 3; left >= 0; left--) {
            Check.due("23: saved states", left, x.undo());
            Check.due("23: the oldest are dropped", 15 + left, x.value(4));
        }
        Check.dueThrow("23: at most 4", STATE, x::undo);
        Check.due("23: unchanged", 15, x.value(4));
        for (int friction = 0; friction < 4; friction++) {
            x.set(0, friction);
        }
        Check.due("23: 4 again", 3, x.undo());
    }

    private static void undoBringsAllBack() {
        BlockCoaster x = Rides.on("0b0b0b0b");
        x.set(1, 1);
        x.addTrain(3);
        x.addTrain(2);
        Rides.pass(x, 3000);
        String before = Rides.all(x);
        x.pass(77);
        Rides.write(x, "9.9b9l9.9b");
        x.parse();
        x.addTrain(1);
        x.setHeight(4, 0);
        for (int i = 0; i < 4; i++) {
            x.undo();
        }
        x.pass(77);
        x.undo();
        x.takeTrain();
        x.pass(500);
        x.pass(500);
        x.undo();
        x.undo();
        x.undo();
        Check.due("23: all is back", before, Rides.all(x));
        undoBringsTrainsBack();
    }

    private static void undoBringsTrainsBack() {
        BlockCoaster x = Rides.on("9b0.0b0.");
        x.addTrain(0);
        x.pass(3);
        String standing = Rides.all(x);
        x.pass(2);
        x.undo();
        Check.due("23: ticks of standing", standing, Rides.all(x));
        x.pass(25);
        String warm = Rides.all(x);
        Check.due("23: warm", true, x.train(0, 4) > 20);
        x.pass(20);
        x.undo();
        Check.due("23: warmth", warm, Rides.all(x));
    }

    private static void undoLeavesTheText() {
        BlockCoaster x = new BlockCoaster();
        x.append('0');
        x.set(0, 4);
        x.append('b');
        x.append('1');
        x.undo();
        Check.due("23: the text stays", 3, x.clearText());
        x.set(0, 4);
        x.undo();
        Check.due("23: the text stays empty", 0, x.clearText());
    }

    private static void whatIsNotSaved() {
        BlockCoaster x = new BlockCoaster();
        x.addTrain(0);
        Check.outcome(() -> x.addTrain(0));
        Check.outcome(() -> x.rescue(0));
        Check.outcome(() -> x.set(0, -1));
        Check.outcome(() -> x.setHeight(0, 10));
        Check.outcome(() -> x.pass(0));
        x.append('0');
        x.parse();
        x.clearText();
        x.train(0, 0);
        x.cell(0, 0);
        x.block(0, 0);
        x.value(0);
        x.why(0);
        x.digest();
        Check.due("23: only addTrain was saved", 0, x.undo());
    }

    private static void digest() {
        BlockCoaster x = new BlockCoaster();
        Check.due("24: new", Rides.digest(x, 0, 0), x.digest());
        x.addTrain(0);
        x.addTrain(2);
        x.append('0');
        Check.due("24: trains, a text, saved states", Rides.digest(x, 1, 2), x.digest());
        x.pass(300);
        x.setHeight(7, 9);
        x.pass(3);
        Check.due("24: more saved states", Rides.digest(x, 1, 4), x.digest());
        BlockCoaster y = Rides.on("0b0b0b0b");
        y.set(1, 1);
        y.addTrain(0);
        Rides.pass(y, 4000);
        Check.due("24: 30 dispatches", Rides.digest(y, 8, 4), y.digest());
        Check.due("24: it changes nothing", y.digest(), y.digest());
    }

    private static void throwingChangesNothing() {
        BlockCoaster x = new BlockCoaster();
        x.addTrain(0);
        x.addTrain(2);
        x.pass(33);
        Rides.write(x, "0".repeat(90));
        long before = x.digest();
        Check.Call[] wrong = {() -> x.addTrain(4), () -> x.addTrain(1), () -> x.rescue(0), () -> x.rescue(2),
            () -> x.set(0, 21), () -> x.set(4, 0), () -> x.setHeight(14, 0), () -> x.setHeight(0, 10),
            () -> x.pass(0), () -> x.pass(501), () -> x.train(2, 0), () -> x.train(0, 10), () -> x.cell(14, 0),
            () -> x.cell(0, 4), () -> x.block(4, 0), () -> x.block(0, 5), () -> x.value(12), () -> x.dispatch(1, 0),
            () -> x.dispatch(0, 2), () -> x.why(2), () -> x.ticksToStation(2), () -> x.dispatchesWith(501),
            () -> x.leastSquare(14), () -> x.append(128), () -> x.append(48)};
        for (int i = 0; i < wrong.length; i++) {
            Check.due("call " + i + " throws", true, Check.outcome(wrong[i]).toString().endsWith("Exception"));
            Check.due("call " + i + " changes nothing", before, x.digest());
        }
        Check.due("nothing more was saved", 2, x.undo());
    }

    private static void twoCoasters() {
        BlockCoaster x = new BlockCoaster();
        BlockCoaster y = new BlockCoaster();
        long before = y.digest();
        x.set(0, 9);
        x.setHeight(0, 9);
        x.addTrain(1);
        x.append('0');
        x.pass(100);
        Check.due("another coaster is not touched", before, y.digest());
        Check.due("nor is a new one", before, new BlockCoaster().digest());
    }
}
