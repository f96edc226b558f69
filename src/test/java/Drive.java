/** A train on a long track whose heights and friction are set under it, so that it comes to squares that are wanted. */
final class Drive {
    static final int LAST = 29;
    private static final int GREATEST_DROP = 9;
    private static final int GREATEST_FRICTION = 20;
    private static final int WARM = 60;
    private static final int MOST_TICKS = 100;

    final BlockCoaster x;

    /** The train is on cell 1, with the square 925 - 2; the cells behind it are plain, and cell 29 is a brake cell. */
    Drive() {
        x = Rides.on("9b" + "0.".repeat(28) + "0b");
        Rides.set(x, 0, 1, 0, 40);
        x.addTrain(0);
        x.pass(21);
    }

    /** Comes to wheels so warm that the drag is the friction alone. */
    static Drive warm() {
        Drive drive = new Drive();
        for (int moves = 0; moves < LAST && drive.warmth() < WARM + 10; moves++) {
            drive.move(GREATEST_DROP, 0);
        }
        return drive;
    }

    static Drive at(int square) {
        Drive drive = warm();
        drive.steer(square);
        return drive;
    }

    int square() {
        return x.train(0, 2);
    }

    int progress() {
        return x.train(0, 3);
    }

    int warmth() {
        return x.train(0, 4);
    }

    /** Sets how far the next cell lies below the train, and lets ticks pass until the train is there, or does not run. */
    void move(int drop, int friction) {
        int cell = x.train(0, 0);
        x.setHeight(cell, Math.max(drop, 0));
        x.setHeight(cell + 1, Math.max(-drop, 0));
        x.set(0, friction);
        for (int ticks = 0; ticks < MOST_TICKS && x.train(0, 0) == cell && x.train(0, 5) == 0; ticks++) {
            x.pass(1);
        }
    }

    /** With warm wheels: the last move adds exactly what is missing to the wanted square. */
    void steer(int wanted) {
        for (int moves = 0; moves < LAST; moves++) {
            int missing = wanted - square();
            int drop = Math.max(-GREATEST_DROP, Math.min(GREATEST_DROP, -Math.floorDiv(-missing, 100)));
            int friction = 100 * drop - missing;
            if (friction >= 0 && friction <= GREATEST_FRICTION) {
                move(drop, friction);
                return;
            }
            boolean far = friction < 0 || drop == -GREATEST_DROP && friction > 100;
            move(far ? drop : 0, friction < 0 ? 0 : GREATEST_FRICTION);
        }
        throw new IllegalStateException("the square " + wanted + " was not reached");
    }
}
