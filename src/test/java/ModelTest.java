import java.util.Random;

/** The program and the model answer the same calls, wrong ones among them; the seeds are fixed. */
public final class ModelTest {
    private static final int RUNS = 250;
    private static final int CALLS = 512;
    private static final int[] EXTREMES = {Integer.MIN_VALUE, Integer.MIN_VALUE + 1, -10, -1, 10, 13, 30, 31, 90,
        100, 128, 501, 10000, Integer.MAX_VALUE - 1, Integer.MAX_VALUE};

    private final Random random;
    private final BlockCoaster coaster = new BlockCoaster();
    private final Model model = new Model();
    private final StringBuilder told = new StringBuilder();
    private int calls = 0;

    private ModelTest(int seed) {
        random = new Random(seed);
    }

    public static void main(String[] args) {
        for (int seed = 1; seed <= RUNS && Check.wrongSoFar() < 5; seed++) {
            new ModelTest(seed).run(seed);
        }
        Check.finish("ModelTest");
    }

    private void run(int seed) {
        boolean wild = seed % 2 == 0;
        if (wild) {
            layTrack();
        }
        while (calls < CALLS && Check.wrongSoFar() == 0) {
            step(seed);
        }
        if (Check.wrongSoFar() > 0) {
            System.out.println("seed " + seed + ": " + told);
        }
    }

    private void step(int seed) {
        int kind = random.nextInt(100);
        if (kind < 28) {
            ask("pass", random.nextInt(3) == 0 ? number(1, 500) : number(1, 40));
        } else if (kind < 42) {
            ask("addTrain", number(0, model.value(1) - 1));
        } else if (kind < 45) {
            ask("takeTrain");
        } else if (kind < 51) {
            ask("rescue", number(0, 3));
        } else if (kind < 57) {
            int what = number(0, 3);
            ask("set", what, number(0, new int[] {20, 50, 120, 40}[Math.floorMod(what, 4)]));
        } else if (kind < 61) {
            ask("setHeight", number(0, model.value(0) - 1), number(0, 9));
        } else if (kind < 66) {
            ask("undo");
        } else if (kind < 67 && random.nextInt(3) == 0) {
            layTrack();
        } else if (kind < 69) {
            ask("append", number(0, 127));
        } else {
            look();
        }
        if (random.nextInt(4) == 0) {
            ask("digest");
        }
    }

    private void look() {
        switch (random.nextInt(13)) {
            case 0 -> ask("train", number(0, 3), number(0, 9));
            case 1 -> ask("cell", number(0, model.value(0) - 1), number(0, 3));
            case 2 -> ask("block", number(0, model.value(1) - 1), number(0, 4));
            case 3 -> ask("value", number(0, 11));
            case 4 -> ask("dispatch", number(0, 35), number(0, 1));
            case 5 -> ask("why", number(0, 3));
            case 6 -> ask("ticksToStation", number(0, 3));
            case 7 -> ask("ticksToValley");
            case 8 -> ask("dispatchesWith", number(0, 500));
            case 9 -> ask("mostFriction");
            case 10 -> ask("leastSquare", number(0, model.value(0) - 1));
            case 11 -> ask("meanWarmth");
            default -> ask("clearText");
        }
    }

    /** Now and then a number from outside. */
    private int number(int least, int greatest) {
        if (random.nextInt(25) == 0) {
            return EXTREMES[random.nextInt(EXTREMES.length)];
        }
        if (random.nextInt(40) == 0) {
            return greatest + 1;
        }
        return least + random.nextInt(greatest - least + 1);
    }

    private void layTrack() {
        ask("clearText");
        int cells = random.nextInt(6) == 0 ? 1 + random.nextInt(32) : 4 + random.nextInt(12);
        boolean gentle = random.nextBoolean();
        int height = random.nextInt(10);
        for (int i = 0; i < cells; i++) {
            height = gentle ? Math.max(0, Math.min(9, height + random.nextInt(3) - 1)) : random.nextInt(10);
            ask("append", '0' + height);
            ask("append", random.nextInt(60) == 0 ? random.nextInt(128) : "bb.l..l".charAt(random.nextInt(7)));
        }
        ask("parse");
        ask("digest");
    }

    private void ask(String name, int... a) {
        if (calls == CALLS) {
            return;
        }
        calls++;
        told.append(name).append(java.util.Arrays.toString(a)).append(' ');
        Object want = Check.outcome(() -> ofModel(name, a));
        Object got = Check.outcome(() -> ofCoaster(name, a));
        Check.due(name + java.util.Arrays.toString(a) + " as call " + calls, want, got);
    }

    private Object ofCoaster(String name, int[] a) {
        return switch (name) {
            case "addTrain" -> coaster.addTrain(a[0]);
            case "takeTrain" -> coaster.takeTrain();
            case "rescue" -> coaster.rescue(a[0]);
            case "set" -> coaster.set(a[0], a[1]);
            case "setHeight" -> coaster.setHeight(a[0], a[1]);
            case "pass" -> coaster.pass(a[0]);
            case "train" -> coaster.train(a[0], a[1]);
            case "cell" -> coaster.cell(a[0], a[1]);
            case "block" -> coaster.block(a[0], a[1]);
            case "value" -> coaster.value(a[0]);
            case "dispatch" -> coaster.dispatch(a[0], a[1]);
            case "why" -> coaster.why(a[0]);
            case "ticksToStation" -> coaster.ticksToStation(a[0]);
            case "ticksToValley" -> coaster.ticksToValley();
            case "dispatchesWith" -> coaster.dispatchesWith(a[0]);
            case "mostFriction" -> coaster.mostFriction();
            case "leastSquare" -> coaster.leastSquare(a[0]);
            case "meanWarmth" -> coaster.meanWarmth();
            case "append" -> coaster.append(a[0]);
            case "clearText" -> coaster.clearText();
            case "parse" -> coaster.parse();
            case "undo" -> coaster.undo();
            default -> coaster.digest();
        };
    }

    private Object ofModel(String name, int[] a) {
        return switch (name) {
            case "addTrain" -> model.addTrain(a[0]);
            case "takeTrain" -> model.takeTrain();
            case "rescue" -> model.rescue(a[0]);
            case "set" -> model.set(a[0], a[1]);
            case "setHeight" -> model.setHeight(a[0], a[1]);
            case "pass" -> model.pass(a[0]);
            case "train" -> model.train(a[0], a[1]);
            case "cell" -> model.cell(a[0], a[1]);
            case "block" -> model.block(a[0], a[1]);
            case "value" -> model.value(a[0]);
            case "dispatch" -> model.dispatch(a[0], a[1]);
            case "why" -> model.why(a[0]);
            case "ticksToStation" -> model.ticksToStation(a[0]);
            case "ticksToValley" -> model.ticksToValley();
            case "dispatchesWith" -> model.dispatchesWith(a[0]);
            case "mostFriction" -> model.mostFriction();
            case "leastSquare" -> model.leastSquare(a[0]);
            case "meanWarmth" -> model.meanWarmth();
            case "append" -> model.append(a[0]);
            case "clearText" -> model.clearText();
            case "parse" -> model.parse();
            case "undo" -> model.undo();
            default -> model.digest();
        };
    }
}
