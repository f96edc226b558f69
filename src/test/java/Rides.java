/** What several tests need: coasters on a track of a text, and bytes for a text. */
final class Rides {
    private Rides() {
    }

    static BlockCoaster on(String track) {
        BlockCoaster coaster = new BlockCoaster();
        write(coaster, track);
        if (coaster.parse() < 0) {
            throw new IllegalStateException(track);
        }
        return coaster;
    }

    static void write(BlockCoaster coaster, String text) {
        coaster.clearText();
        for (int i = 0; i < text.length(); i++) {
            coaster.append(text.charAt(i));
        }
    }

    static void pass(BlockCoaster coaster, int ticks) {
        int left = ticks;
        while (left > 0) {
            int now = Math.min(left, 500);
            coaster.pass(now);
            left -= now;
        }
    }

    /** The ten values of a train and why(), with blanks between them. */
    static String train(BlockCoaster coaster, int train) {
        StringBuilder all = new StringBuilder();
        for (int what = 0; what < 10; what++) {
            all.append(coaster.train(train, what)).append(' ');
        }
        return all.append(coaster.why(train)).toString();
    }

    static String block(BlockCoaster coaster, int block) {
        StringBuilder all = new StringBuilder();
        for (int what = 0; what < 5; what++) {
            all.append(what == 0 ? "" : " ").append(coaster.block(block, what));
        }
        return all.toString();
    }

    static String cell(BlockCoaster coaster, int cell) {
        StringBuilder all = new StringBuilder();
        for (int what = 0; what < 4; what++) {
            all.append(what == 0 ? "" : " ").append(coaster.cell(cell, what));
        }
        return all.toString();
    }

    static String values(BlockCoaster coaster) {
        StringBuilder all = new StringBuilder();
        for (int what = 0; what < 12; what++) {
            all.append(what == 0 ? "" : " ").append(coaster.value(what));
        }
        return all.toString();
    }
}
