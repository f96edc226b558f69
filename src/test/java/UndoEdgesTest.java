/** The edges of promises 23 and 24, undo and digest, and of what 'Terms' says of saved states and exceptions. */
public final class UndoEdgesTest {
    private static final Class<IllegalStateException> STATE = IllegalStateException.class;

    public static void main(String[] args) {
        noSavedState();
        statesThatRemain();
        mostRecentFirst();
        fourAtMost();
        fourAgainAndAgain();
        eachUndoableCallSaves();
        savesWithoutAChange();
        othersDoNotSave();
        refusedCallsDoNotSave();
        undoneIsGone();
        everythingIsRestored();
        heldUpIsRestored();
        logIsRestored();
        fullLogIsRestored();
        tracksAreRestored();
        textIsNotRestored();
        refusedCallsChangeNothing();
        digestOverflows();
        digestOfTheText();
        digestOfAllValues();
        digestOfTheLog();
        digestOfTheValley();
        digestOfTheSavedStates();
        Check.finish("UndoEdgesTest");
    }

    private static void noSavedState() {
        Check.sentence("Promise 23", "Throws `IllegalStateException` if there is no saved state");
        BlockCoaster x = new BlockCoaster();
        Check.refused(x, "a new coaster", STATE, x::undo);
        x.addTrain(0);
        x.undo();
        Check.refused(x, "after the only one", STATE, x::undo);
        Check.refused(x, "once more", STATE, x::undo);
    }

    private static void statesThatRemain() {
        Check.sentence("Promise 23", "Returns the number of saved states that remain.");
        for (int calls = 1; calls <= 6; calls++) {
            BlockCoaster x = new BlockCoaster();
            for (int call = 0; call < calls; call++) {
                x.set(0, call);
            }
            for (int left = Math.min(4, calls) - 1; left >= 0; left--) {
                Check.due("after " + calls + " calls", left, x.undo());
            }
        }
    }

    private static void mostRecentFirst() {
        Check.sentence("Promise 23", "Restores the most recently saved state and removes it from the saved states.");
        BlockCoaster x = new BlockCoaster();
        x.set(0, 10);
        x.set(0, 11);
        x.undo();
        Check.due("the second call", 10, x.value(4));
        x.set(0, 12);
        x.undo();
        Check.due("the third call", 10, x.value(4));
        x.undo();
        Check.due("the first call", 3, x.value(4));
    }

    private static void fourAtMost() {
        Check.sentence("Promise 23, Terms", "at most 4 states are saved, and the oldest is dropped first.");
        BlockCoaster x = new BlockCoaster();
        for (int friction = 10; friction < 14; friction++) {
            x.set(0, friction);
        }
        for (int back : new int[] {12, 11, 10, 3}) {
            x.undo();
            Check.due("of four", back, x.value(4));
        }
        for (int friction = 10; friction < 15; friction++) {
            x.set(0, friction);
        }
        for (int back : new int[] {13, 12, 11, 10}) {
            x.undo();
            Check.due("of five", back, x.value(4));
        }
        Check.refused(x, "the oldest was dropped", STATE, x::undo);
    }

    private static void fourAgainAndAgain() {
        Check.sentence("Promise 23, Terms", "at most 4 states are saved, and the oldest is dropped first.");
        BlockCoaster x = new BlockCoaster();
        for (int gap = 1; gap <= 23; gap++) {
            x.set(2, gap);
        }
        x.undo();
        x.undo();
        x.set(2, 100);
        x.set(2, 101);
        x.set(2, 102);
        for (int back : new int[] {101, 100, 21, 20}) {
            x.undo();
            Check.due("the newest four", back, x.value(6));
        }
        Check.refused(x, "no fifth", STATE, x::undo);
    }

    private static void eachUndoableCallSaves() {
        Check.sentence("Promise 23, Terms",
                "Each successful call of a method whose description says \"undoable\" saves the state from before the call");
        BlockCoaster x = Rides.on("0b9.0b0.");
        x.addTrain(0);
        x.undo();
        Check.due("addTrain", "0 0", x.value(2) + " " + x.undo());
        x = Rides.on("0b9.0b0.");
        x.addTrain(0);
        x.takeTrain();
        Check.due("takeTrain", "2 1", x.undo() + " " + x.value(2));
        x.pass(25);
        x.rescue(0);
        Check.due("rescue", "3 2", x.undo() + " " + x.train(0, 5));
        Check.due("pass", "2 0", x.undo() + " " + x.value(3));
        x.set(1, 9);
        Check.due("set", "2 5", x.undo() + " " + x.value(5));
        x.setHeight(1, 1);
        Check.due("setHeight", "2 9", x.undo() + " " + x.cell(1, 0));
        Rides.write(x, "0b".repeat(8));
        x.parse();
        Check.due("parse", "2 4", x.undo() + " " + x.value(0));
    }

    private static void savesWithoutAChange() {
        Check.sentence("Promise 23, Terms", "even if the call changes nothing");
        BlockCoaster x = new BlockCoaster();
        for (int what = 0; what < 4; what++) {
            x.set(what, x.value(4 + what));
            Check.due("set", 0, x.undo());
        }
        x.setHeight(5, 7);
        Check.due("setHeight", 0, x.undo());
        Rides.write(x, "0b1l3l5l7l7b4.1.3.2.4b2.1.0b");
        x.parse();
        Check.due("parse", 0, x.undo());
        x.set(0, 3);
        x.set(0, 3);
        x.set(0, 9);
        x.set(0, 9);
        x.undo();
        x.undo();
        Check.due("two changed nothing", 3, x.value(4));
        Check.due("and are there", 1, x.undo());
    }

    private static void othersDoNotSave() {
        Check.sentence("Promise 23, Terms", "Each successful call of a method whose description says \"undoable\"");
        BlockCoaster x = new BlockCoaster();
        x.set(1, 1);
        x.addTrain(0);
        x.pass(1);
        x.train(0, 0);
        x.cell(0, 0);
        x.block(0, 0);
        x.value(0);
        x.dispatch(0, 0);
        x.why(0);
        x.ticksToStation(0);
        x.ticksToValley();
        x.dispatchesWith(0);
        x.mostFriction();
        x.leastSquare(0);
        x.meanWarmth();
        x.append('0');
        x.parse();
        x.clearText();
        x.digest();
        Check.due("three saved", 2, x.undo());
        Check.due("pass() was the latest", 0, x.value(3));
    }

    private static void refusedCallsDoNotSave() {
        Check.sentence("Promise 23, Terms", "Each successful call of a method whose description says \"undoable\"");
        BlockCoaster x = new BlockCoaster();
        x.addTrain(0);
        Check.outcome(() -> x.addTrain(0));
        Check.outcome(() -> x.addTrain(9));
        Check.outcome(() -> x.rescue(0));
        Check.outcome(() -> x.rescue(1));
        Check.outcome(() -> x.set(0, 21));
        Check.outcome(() -> x.set(4, 0));
        Check.outcome(() -> x.setHeight(0, 10));
        Check.outcome(() -> x.setHeight(14, 0));
        Check.outcome(() -> x.pass(0));
        Check.due("one saved", 0, x.undo());
        Check.outcome(x::undo);
        Check.outcome(x::takeTrain);
        Check.refused(x, "none saved", STATE, x::undo);
        BlockCoaster y = new BlockCoaster();
        Rides.pass(y, 100000);
        Check.outcome(() -> y.pass(1));
        y.undo();
        Check.due("pass() at the limit saves nothing", 99500, y.value(3));
    }

    private static void undoneIsGone() {
        Check.sentence("Promise 23", "and removes it from the saved states.");
        BlockCoaster x = new BlockCoaster();
        x.set(0, 10);
        x.set(0, 11);
        Check.due("one remains", 1, x.undo());
        Check.due("undo() saves nothing", 0, x.undo());
        Check.refused(x, "none remains", STATE, x::undo);
    }

    /** Much that can be saved: a dispatch, one train that lies, two that stand, one that runs, heights and numbers. */
    private static BlockCoaster full() {
        BlockCoaster x = Rides.on("0b0b0b9.0b0.0b0b0b");
        Rides.set(x, 2, 3, 7, 30);
        x.addTrain(0);
        x.pass(70);
        x.addTrain(1);
        x.addTrain(0);
        x.setHeight(8, 1);
        x.addTrain(4);
        x.set(3, 0);
        x.pass(15);
        return x;
    }

    private static void everythingIsRestored() {
        Check.sentence("Promise 23, Terms", "The saved state contains everything except the text.");
        BlockCoaster x = full();
        String before = Rides.all(x);
        Check.due("a dispatch", 1, x.value(8));
        Check.due("trains of each kind", "2 1 1 0", x.train(0, 5) + " " + x.train(1, 5) + " " + x.train(2, 5) + " "
                + x.train(3, 5));
        x.pass(333);
        x.undo();
        Check.due("pass", before, Rides.all(x));
        x = full();
        x.rescue(0);
        x.undo();
        Check.due("rescue", before, Rides.all(x));
        x = full();
        x.takeTrain();
        x.pass(40);
        x.undo();
        x.undo();
        Check.due("takeTrain", before, Rides.all(x));
        x = full();
        x.takeTrain();
        x.addTrain(4);
        x.undo();
        x.undo();
        Check.due("addTrain", before, Rides.all(x));
        x = full();
        Rides.set(x, 20, 50, 500, 0);
        for (int i = 0; i < 4; i++) {
            x.undo();
        }
        Check.due("set", before, Rides.all(x));
    }

    private static void heldUpIsRestored() {
        Check.sentence("Promise 23, Terms", "The saved state contains everything except the text.");
        BlockCoaster x = Rides.on("0b0b0b0b");
        Rides.set(x, 3, 50, 0, 20);
        x.addTrain(0);
        x.addTrain(2);
        x.pass(20);
        x.pass(1);
        Check.due("train 1 came while block 0 was not free", 1, x.block(3, 4));
        x.undo();
        Check.due("it has not come", 0, x.block(3, 4));
        x.pass(1);
        Check.due("it comes again", 1, x.block(3, 4));
        x.pass(200);
        Rides.write(x, "0b0b0b0b");
        x.parse();
        x.undo();
        x.undo();
        Check.due("once", 1, x.block(3, 4));
    }

    private static void logIsRestored() {
        Check.sentence("Promise 23, Terms", "The saved state contains everything except the text.");
        BlockCoaster x = Rides.on("0b0b0b0b");
        x.set(1, 1);
        x.addTrain(0);
        x.pass(100);
        x.pass(500);
        Check.due("more dispatches", 8, x.value(8));
        x.undo();
        Check.due("two", "2 84", x.value(8) + " " + x.value(9));
        Check.due("the latest", 84, x.dispatch(0, 0));
        Check.due("the first", 0, x.dispatch(1, 0));
        x.undo();
        Check.due("none", "0 -1", x.value(8) + " " + x.value(9));
    }

    private static void fullLogIsRestored() {
        Check.sentence("Promise 23, Terms", "The saved state contains everything except the text.");
        BlockCoaster x = Rides.on("0b0b0b0b");
        x.set(1, 1);
        x.addTrain(0);
        Rides.pass(x, 84 * 40 + 1);
        x.takeTrain();
        x.addTrain(2);
        x.addTrain(0);
        Rides.pass(x, 450);
        Check.due("the log went on with another train", 1, x.dispatch(0, 1) + x.dispatch(1, 1));
        x.undo();
        x.undo();
        x.undo();
        x.undo();
        for (int index = 0; index < 30; index++) {
            Check.due("number " + index, 84 * (40 - index) + " 0", x.dispatch(index, 0) + " " + x.dispatch(index, 1));
        }
    }

    private static void tracksAreRestored() {
        Check.sentence("Promise 23, Terms", "The saved state contains everything except the text.");
        BlockCoaster x = Rides.on("0b0b" + "1.".repeat(27) + "9b");
        Rides.write(x, "9b9l9b9l");
        x.parse();
        String four = Rides.all(x);
        Rides.write(x, "2b".repeat(8));
        x.parse();
        x.setHeight(7, 3);
        x.undo();
        x.undo();
        Check.due("four cells", four, Rides.all(x));
        x.undo();
        Check.due("thirty cells", "30 3", x.value(0) + " " + x.value(1));
        Check.due("the first block", "0 0 1 -1 0", Rides.block(x, 0));
        Check.due("the last block", "2 29 28 -1 0", Rides.block(x, 2));
        Check.due("the last cell", "9 2 2 -1", Rides.cell(x, 29));
        Check.due("the last but one", "1 0 2 -1", Rides.cell(x, 28));
        x.undo();
        Check.due("the first track", "14 4 0 0 3 5 0 20 0 -1 0 7", Rides.values(x));
    }

    private static void textIsNotRestored() {
        Check.sentence("Promise 23, Terms", "The saved state contains everything except the text.");
        BlockCoaster x = new BlockCoaster();
        x.set(0, 4);
        Rides.write(x, "0b0b0.0.");
        x.undo();
        Check.due("a longer text stays", 4, x.parse());
        x.clearText();
        x.undo();
        Check.due("an empty text stays", 0, x.clearText());
    }

    private static void refusedCallsChangeNothing() {
        Check.sentence("Promise 23, Terms", "A call that throws an exception changes nothing.");
        BlockCoaster x = full();
        Rides.write(x, "0".repeat(90));
        String before = Rides.all(x);
        Check.Call[] calls = {() -> x.addTrain(7), () -> x.addTrain(3), () -> x.rescue(1), () -> x.rescue(4),
            () -> x.set(0, 21), () -> x.set(4, 0), () -> x.setHeight(9, 0), () -> x.setHeight(0, 10), () -> x.pass(0),
            () -> x.pass(501), () -> x.append(48), () -> x.append(128), () -> x.dispatchesWith(501)};
        for (Check.Call call : calls) {
            Check.due("it throws", true, Check.outcome(call).toString().endsWith("Exception"));
        }
        Check.due("all", before, Rides.all(x));
        Check.due("the text", 90, x.clearText());
        Check.due("saved states", 3, x.undo());
    }

    private static void digestOverflows() {
        Check.sentence("Promise 24", "Returns the hash, with the overflow of long arithmetic ignored.");
        Check.due("a new object", Rides.digestOfANewObject(), new BlockCoaster().digest());
    }

    private static void digestOfTheText() {
        Check.sentence("Promise 24", "the length of the text");
        BlockCoaster x = new BlockCoaster();
        Check.due("an empty text", Rides.digest(x, 0, 0), x.digest());
        Rides.write(x, "0".repeat(90));
        Check.due("a full text", Rides.digest(x, 90, 0), x.digest());
    }

    private static void digestOfAllValues() {
        Check.sentence("Promise 24", "for each train the values of train() for what = 0 to 9 and why()");
        BlockCoaster x = full();
        Check.due("four trains", 4, x.value(2));
        Check.due("the digest", Rides.digest(x, 18, 4), x.digest());
        Check.due("again", Rides.digest(x, 18, 4), x.digest());
        BlockCoaster y = Rides.on("0b".repeat(8) + "9.".repeat(22));
        Check.due("the longest track", Rides.digest(y, 60, 1), y.digest());
        BlockCoaster z = Rides.on("0b0b9.0.");
        Check.due("the shortest track", Rides.digest(z, 8, 1), z.digest());
    }

    private static void digestOfTheLog() {
        Check.sentence("Promise 24",
                "for each dispatch that is kept, from the latest one, the values of dispatch() for 0 and 1");
        for (int dispatches : new int[] {0, 1, 29, 30, 31}) {
            BlockCoaster x = Rides.on("0b0b0b0b");
            x.set(1, 1);
            x.addTrain(0);
            int ticks = Math.max(84 * (dispatches - 1) + 1, 0);
            Rides.pass(x, ticks);
            int saved = Math.min(4, 3 + (ticks + 499) / 500);
            Check.due(dispatches + " dispatches", Rides.digest(x, 8, saved), x.digest());
        }
    }

    private static void digestOfTheValley() {
        Check.sentence("Promise 24", "ticksToValley()");
        BlockCoaster x = Rides.releasedIn(Rides.slowTrack(9), 300);
        Check.due("2000 ticks", Rides.digest(x, 60, 4), x.digest());
        x.set(2, 301);
        Check.due("none", Rides.digest(x, 60, 4), x.digest());
    }

    private static void digestOfTheSavedStates() {
        Check.sentence("Promise 24", "the number of saved states.");
        for (int calls = 0; calls < 6; calls++) {
            BlockCoaster x = new BlockCoaster();
            for (int call = 0; call < calls; call++) {
                x.set(0, 3);
            }
            Check.due(calls + " calls", Rides.digest(x, 0, Math.min(4, calls)), x.digest());
        }
        BlockCoaster x = new BlockCoaster();
        x.set(0, 3);
        long before = x.digest();
        x.undo();
        Check.due("one less", before - 1, x.digest());
    }
}
