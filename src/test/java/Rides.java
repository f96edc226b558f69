import java.math.BigInteger;

/** What several tests need: coasters on a track of a text, and bytes for a text. */
final class Rides {
    private Rides() {
    }

    static BlockCoaster on(String track) {
        BlockCoaster coaster = new BlockCoaster();
        write(coaster, track);
        if (coaster.parse() < 0) {
            throw new IllegalStateException(track);
        }
        return coaster;
    }

    static void write(BlockCoaster coaster, String text) {
        coaster.clearText();
        for (int i = 0; i < text.length(); i++) {
            coaster.append(text.charAt(i));
        }
    }

    /** Its values told out, hashed without overflow, and cut to 64 bits in the end. */
    static long digestOfANewObject() {
        int[] values = {0, 14, 4, 0, 0, 3, 5, 0, 20, 0, -1, 0, 7,
            0, 2, 0, -1, 1, 1, 1, -1, 3, 1, 1, -1, 5, 1, 1, -1, 7, 1, 1, -1, 7, 2, 1, -1, 4, 0, 2, -1,
            1, 0, 2, -1, 3, 0, 2, -1, 2, 0, 2, -1, 4, 2, 2, -1, 2, 0, 3, -1, 1, 0, 3, -1, 0, 2, 3, -1,
            0, 0, 1, -1, 0, 1, 5, 5, -1, 0, 6, 10, 5, -1, 0, 11, 13, 3, -1, 0, -1, 0};
        BigInteger h = BigInteger.valueOf(3581);
        for (int v : values) {
            h = h.multiply(BigInteger.valueOf(31)).add(BigInteger.valueOf(v));
        }
        return h.longValue();
    }

    static void set(BlockCoaster coaster, int friction, int dwell, int gap, int air) {
        coaster.set(0, friction);
        coaster.set(1, dwell);
        coaster.set(2, gap);
        coaster.set(3, air);
    }

    /** A train at the station that is released in the given tick from now, for another one was dispatched just before. */
    static BlockCoaster releasedIn(String track, int ticks) {
        BlockCoaster x = on(track);
        set(x, 18, 1, 0, 0);
        x.addTrain(0);
        x.pass(1);
        x.takeTrain();
        x.addTrain(0);
        x.set(2, ticks);
        return x;
    }

    /** 1680 ticks from the brake cell 0 to the brake cell 29: 100 on each plain cell, 20 on each lift cell. */
    static String slowTrack(int lastHeight) {
        return "0b" + "0.0l".repeat(14) + lastHeight + "b";
    }

    static void pass(BlockCoaster coaster, int ticks) {
        int left = ticks;
        while (left > 0) {
            int now = Math.min(left, 500);
            coaster.pass(now);
            left -= now;
        }
    }

    /** The ten values of a train and why(), with blanks between them. */
    static String train(BlockCoaster coaster, int train) {
        StringBuilder all = new StringBuilder();
        for (int what = 0; what < 10; what++) {
            all.append(coaster.train(train, what)).append(' ');
        }
        return all.append(coaster.why(train)).toString();
    }

    static String block(BlockCoaster coaster, int block) {
        StringBuilder all = new StringBuilder();
        for (int what = 0; what < 5; what++) {
            all.append(what == 0 ? "" : " ").append(coaster.block(block, what));
        }
        return all.toString();
    }

    static String cell(BlockCoaster coaster, int cell) {
        StringBuilder all = new StringBuilder();
        for (int what = 0; what < 4; what++) {
            all.append(what == 0 ? "" : " ").append(coaster.cell(cell, what));
        }
        return all.toString();
    }

    static String values(BlockCoaster coaster) {
        StringBuilder all = new StringBuilder();
        for (int what = 0; what < 12; what++) {
            all.append(what == 0 ? "" : " ").append(coaster.value(what));
        }
        return all.toString();
    }

    /** All that can be looked at, but for the text and the saved states. */
    static String all(BlockCoaster coaster) {
        StringBuilder all = new StringBuilder(values(coaster));
        for (int cell = 0; cell < coaster.value(0); cell++) {
            all.append('/').append(cell(coaster, cell));
        }
        for (int block = 0; block < coaster.value(1); block++) {
            all.append('/').append(block(coaster, block));
        }
        for (int train = 0; train < coaster.value(2); train++) {
            all.append('/').append(train(coaster, train));
        }
        for (int index = 0; index < keptDispatches(coaster); index++) {
            all.append('/').append(coaster.dispatch(index, 0)).append(' ').append(coaster.dispatch(index, 1));
        }
        return all.toString();
    }

    private static int keptDispatches(BlockCoaster coaster) {
        return Math.min(30, coaster.value(8));
    }

    /** The digest that is due, from the answers of the other calls. */
    static long digest(BlockCoaster coaster, int textLength, int saved) {
        long h = 31L * 3581 + textLength;
        for (int what = 0; what < 12; what++) {
            h = 31 * h + coaster.value(what);
        }
        for (int cell = 0; cell < coaster.value(0); cell++) {
            for (int what = 0; what < 4; what++) {
                h = 31 * h + coaster.cell(cell, what);
            }
        }
        for (int block = 0; block < coaster.value(1); block++) {
            for (int what = 0; what < 5; what++) {
                h = 31 * h + coaster.block(block, what);
            }
        }
        for (int train = 0; train < coaster.value(2); train++) {
            for (int what = 0; what < 10; what++) {
                h = 31 * h + coaster.train(train, what);
            }
            h = 31 * h + coaster.why(train);
        }
        for (int index = 0; index < keptDispatches(coaster); index++) {
            h = 31 * h + coaster.dispatch(index, 0);
            h = 31 * h + coaster.dispatch(index, 1);
        }
        h = 31 * h + coaster.ticksToValley();
        return 31 * h + saved;
    }
}
