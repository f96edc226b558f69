import java.util.ArrayDeque;
import java.util.ArrayList;
import java.util.Deque;
import java.util.List;

/**
 * The document told a second time, slowly and plainly, with nothing taken from the program:
 * ModelTest lets both answer the same calls.
 */
final class Model {
    static final class Cart {
        int cell;
        int square;
        int progress;
        int warmth;
        String state = "stands";
        int stood;
        int moves;
        int visits;

        Cart copy() {
            Cart c = new Cart();
            c.cell = cell;
            c.square = square;
            c.progress = progress;
            c.warmth = warmth;
            c.state = state;
            c.stood = stood;
            c.moves = moves;
            c.visits = visits;
            return c;
        }
    }

    static final class World {
        List<Integer> heights = new ArrayList<>();
        String kinds = "";
        List<Cart> carts = new ArrayList<>();
        int friction = 3;
        int dwell = 5;
        int gap = 0;
        int air = 20;
        int ticks = 0;
        int[] blocked = new int[8];
        /** Tick and train of each dispatch, the latest one last, none ever dropped. */
        List<int[]> log = new ArrayList<>();

        World copy() {
            World w = new World();
            w.heights = new ArrayList<>(heights);
            w.kinds = kinds;
            for (Cart cart : carts) {
                w.carts.add(cart.copy());
            }
            w.friction = friction;
            w.dwell = dwell;
            w.gap = gap;
            w.air = air;
            w.ticks = ticks;
            w.blocked = blocked.clone();
            w.log = new ArrayList<>(log);
            return w;
        }

        int size() {
            return kinds.length();
        }

        int blocks() {
            return brakesAhead(size());
        }

        int brakesAhead(int cell) {
            int brakes = 0;
            for (int i = 0; i < cell; i++) {
                brakes += kinds.charAt(i) == 'b' ? 1 : 0;
            }
            return brakes;
        }

        int brakeOf(int block) {
            int at = -1;
            for (int i = 0; i <= block; i++) {
                at = kinds.indexOf('b', at + 1);
            }
            return at;
        }

        /** Walks on to the next brake cell, and counts which one that is. */
        int blockOf(int cell) {
            int at = cell;
            while (kinds.charAt(at) != 'b') {
                at = (at + 1) % size();
            }
            return brakesAhead(at);
        }

        boolean free(int block) {
            int before = brakeOf((block + blocks() - 1) % blocks());
            for (Cart cart : carts) {
                if (blockOf(cart.cell) == block || cart.cell == before && cart.state.equals("runs")) {
                    return false;
                }
            }
            return true;
        }

        int drag(Cart cart) {
            return cart.warmth >= 60 ? friction : friction + (60 - cart.warmth) / 10;
        }

        boolean nextFree(Cart cart) {
            return free((blockOf(cart.cell) + 1) % blocks());
        }

        boolean gapOver() {
            return log.isEmpty() || ticks - log.get(log.size() - 1)[0] >= gap;
        }

        void tick() {
            for (int i = 0; i < carts.size(); i++) {
                Cart cart = carts.get(i);
                if (cart.state.equals("stands")) {
                    stand(i, cart);
                } else if (cart.state.equals("runs")) {
                    run(cart);
                }
                if (cart.state.equals("runs")) {
                    cart.warmth = Math.min(100, cart.warmth + root(cart.square) / 10);
                }
                cart.warmth += Integer.compare(air, cart.warmth);
            }
            ticks++;
        }

        void stand(int number, Cart cart) {
            cart.stood++;
            boolean station = cart.cell == kinds.indexOf('b');
            boolean released = nextFree(cart) && (!station || cart.stood >= dwell && gapOver());
            if (!released) {
                return;
            }
            if (station) {
                log.add(new int[] {ticks, number});
            }
            cart.state = "runs";
            cart.stood = 0;
            cart.square = 25;
            cart.progress = 0;
        }

        void run(Cart cart) {
            cart.progress += kinds.charAt(cart.cell) == 'l' ? 5 : root(cart.square);
            while (cart.progress >= 100 && cart.state.equals("runs")) {
                cart.progress -= 100;
                int next = (cart.cell + 1) % size();
                char kind = kinds.charAt(next);
                int square = kind == 'l' ? 25
                        : cart.square + 100 * heights.get(cart.cell) - 100 * heights.get(next) - drag(cart);
                if (square < 0) {
                    valley(cart);
                    continue;
                }
                cart.moves++;
                cart.cell = next;
                cart.square = Math.min(square, 9999);
                if (kind == 'b') {
                    cart.state = "stands";
                    cart.square = 0;
                    cart.progress = 0;
                    cart.stood = 0;
                    cart.visits += next == kinds.indexOf('b') ? 1 : 0;
                    blocked[blockOf(next)] += nextFree(cart) ? 0 : 1;
                } else if (kind == '.' && cart.square == 0) {
                    valley(cart);
                }
            }
        }

        void valley(Cart cart) {
            cart.state = "lies";
            cart.square = 0;
            cart.progress = 0;
        }

        long lying() {
            return carts.stream().filter(c -> c.state.equals("lies")).count();
        }
    }

    World world = new World();
    final Deque<World> kept = new ArrayDeque<>();
    final StringBuilder text = new StringBuilder();

    Model() {
        lay("0b1l3l5l7l7b4.1.3.2.4b2.1.0b");
    }

    static int root(int n) {
        int r = 0;
        while ((r + 1) * (r + 1) <= n) {
            r++;
        }
        return r;
    }

    private void lay(String track) {
        World w = new World();
        w.friction = world.friction;
        w.dwell = world.dwell;
        w.gap = world.gap;
        w.air = world.air;
        StringBuilder kinds = new StringBuilder();
        for (int i = 0; i < track.length(); i += 2) {
            w.heights.add(track.charAt(i) - '0');
            kinds.append(track.charAt(i + 1));
        }
        w.kinds = kinds.toString();
        world = w;
    }

    private void keep() {
        kept.addLast(world.copy());
        if (kept.size() > 4) {
            kept.removeFirst();
        }
    }

    private static void index(boolean good) {
        if (!good) {
            throw new IndexOutOfBoundsException();
        }
    }

    private static void argument(boolean good) {
        if (!good) {
            throw new IllegalArgumentException();
        }
    }

    private static void state(boolean good) {
        if (!good) {
            throw new IllegalStateException();
        }
    }

    private static boolean in(int value, int least, int greatest) {
        return value >= least && value <= greatest;
    }

    int addTrain(int block) {
        index(in(block, 0, world.blocks() - 1));
        state(world.carts.size() < 4 && world.free(block));
        keep();
        Cart cart = new Cart();
        cart.cell = world.brakeOf(block);
        cart.warmth = world.air;
        world.carts.add(cart);
        return world.carts.size() - 1;
    }

    int takeTrain() {
        state(!world.carts.isEmpty());
        keep();
        world.carts.remove(world.carts.size() - 1);
        return world.carts.size();
    }

    private Cart cart(int train) {
        index(in(train, 0, world.carts.size() - 1));
        return world.carts.get(train);
    }

    int rescue(int train) {
        Cart lying = cart(train);
        state(lying.state.equals("lies"));
        keep();
        int cell = lying.cell;
        lying.state = "stands";
        lying.stood = 0;
        while (world.kinds.charAt(lying.cell) != 'b') {
            lying.cell = (lying.cell + 1) % world.size();
        }
        return cell;
    }

    int set(int what, int value) {
        index(in(what, 0, 3));
        argument(what == 0 ? in(value, 0, 20) : what == 1 ? in(value, 1, 50)
                : what == 2 ? in(value, 0, 500) : in(value, 0, 40));
        keep();
        int old;
        if (what == 0) {
            old = world.friction;
            world.friction = value;
        } else if (what == 1) {
            old = world.dwell;
            world.dwell = value;
        } else if (what == 2) {
            old = world.gap;
            world.gap = value;
        } else {
            old = world.air;
            world.air = value;
        }
        return old;
    }

    int setHeight(int cell, int height) {
        index(in(cell, 0, world.size() - 1));
        argument(in(height, 0, 9));
        keep();
        return world.heights.set(cell, height);
    }

    int pass(int ticks) {
        argument(in(ticks, 1, 500));
        state(world.ticks + ticks <= 100000);
        keep();
        int before = world.log.size();
        for (int i = 0; i < ticks; i++) {
            world.tick();
        }
        return world.log.size() - before;
    }

    int train(int train, int what) {
        Cart c = cart(train);
        argument(in(what, 0, 9));
        int state = c.state.equals("runs") ? 0 : c.state.equals("stands") ? 1 : 2;
        int[] all = {c.cell, world.blockOf(c.cell), c.square, c.progress, c.warmth, state, c.stood, world.drag(c),
            c.moves, c.visits};
        return all[what];
    }

    int cell(int cell, int what) {
        index(in(cell, 0, world.size() - 1));
        argument(in(what, 0, 3));
        int on = -1;
        for (int i = 0; i < world.carts.size(); i++) {
            on = world.carts.get(i).cell == cell ? i : on;
        }
        int[] all = {world.heights.get(cell), ".lb".indexOf(world.kinds.charAt(cell)), world.blockOf(cell), on};
        return all[what];
    }

    int block(int block, int what) {
        index(in(block, 0, world.blocks() - 1));
        argument(in(what, 0, 4));
        int first = (world.brakeOf((block + world.blocks() - 1) % world.blocks()) + 1) % world.size();
        int cells = 0;
        for (int i = 0; i < world.size(); i++) {
            cells += world.blockOf(i) == block ? 1 : 0;
        }
        int inside = -1;
        for (int i = 0; i < world.carts.size(); i++) {
            inside = world.blockOf(world.carts.get(i).cell) == block ? i : inside;
        }
        int[] all = {first, world.brakeOf(block), cells, inside, world.blocked[block]};
        return all[what];
    }

    int value(int what) {
        argument(in(what, 0, 11));
        int latest = world.log.isEmpty() ? -1 : world.log.get(world.log.size() - 1)[0];
        int highest = world.heights.stream().mapToInt(h -> h).max().getAsInt();
        int[] all = {world.size(), world.blocks(), world.carts.size(), world.ticks, world.friction, world.dwell,
            world.gap, world.air, world.log.size(), latest, (int) world.lying(), highest};
        return all[what];
    }

    int dispatch(int index, int what) {
        index(in(index, 0, Math.min(30, world.log.size()) - 1));
        argument(in(what, 0, 1));
        return world.log.get(world.log.size() - 1 - index)[what];
    }

    int why(int train) {
        Cart c = cart(train);
        if (c.state.equals("runs")) {
            return 0;
        }
        if (c.state.equals("lies")) {
            return 1;
        }
        if (!world.nextFree(c)) {
            return 2;
        }
        boolean station = world.blockOf(c.cell) == 0;
        if (station && c.stood + 1 < world.dwell) {
            return 3;
        }
        return station && !world.gapOver() ? 4 : 5;
    }

    int ticksToStation(int train) {
        cart(train);
        World w = world.copy();
        int visits = w.carts.get(train).visits;
        for (int t = 1; t <= 2000; t++) {
            w.tick();
            if (w.carts.get(train).visits != visits) {
                return t;
            }
        }
        return -1;
    }

    private static int ticksToValley(World start, int limit) {
        World w = start.copy();
        for (int t = 1; t <= limit; t++) {
            w.tick();
            for (int i = 0; i < w.carts.size(); i++) {
                if (w.carts.get(i).state.equals("lies") && !start.carts.get(i).state.equals("lies")) {
                    return t;
                }
            }
        }
        return -1;
    }

    int ticksToValley() {
        return ticksToValley(world, 2000);
    }

    int dispatchesWith(int gap) {
        argument(in(gap, 0, 500));
        World w = world.copy();
        w.gap = gap;
        for (int t = 0; t < 1000; t++) {
            w.tick();
        }
        return w.log.size() - world.log.size();
    }

    int mostFriction() {
        int most = -1;
        for (int friction = 0; friction <= 20; friction++) {
            World w = world.copy();
            w.friction = friction;
            most = ticksToValley(w, 500) < 0 ? friction : most;
        }
        return most;
    }

    int leastSquare(int cell) {
        index(in(cell, 0, world.size() - 1));
        for (int square = 0; square <= 9999; square++) {
            if (reaches(cell, square)) {
                return square;
            }
        }
        return -1;
    }

    private boolean reaches(int cell, int square) {
        int at = cell;
        int now = square;
        while (world.kinds.charAt(at) != 'b') {
            int next = (at + 1) % world.size();
            now = world.kinds.charAt(next) == 'l' ? 25
                    : now + 100 * (world.heights.get(at) - world.heights.get(next)) - world.friction;
            if (now < 0 || now == 0 && world.kinds.charAt(next) == '.') {
                return false;
            }
            now = Math.min(now, 9999);
            at = next;
        }
        return true;
    }

    double meanWarmth() {
        double sum = world.carts.stream().mapToInt(c -> c.warmth).sum();
        return world.carts.isEmpty() ? 0.0 : sum / (double) world.carts.size();
    }

    int append(int value) {
        argument(in(value, 0, 127));
        state(text.length() < 90);
        text.append((char) value);
        return text.length();
    }

    int clearText() {
        int length = text.length();
        text.setLength(0);
        return length;
    }

    int parse() {
        int brakes = 0;
        for (int i = 0; i < text.length(); i++) {
            char c = text.charAt(i);
            String allowed = i >= 60 ? "" : i % 2 == 0 ? "0123456789" : brakes == 8 ? "l." : "l.b";
            if (allowed.indexOf(c) < 0) {
                return -10 - i;
            }
            brakes += c == 'b' ? 1 : 0;
        }
        if (text.length() % 2 == 1 || text.length() < 8 || brakes < 2) {
            return -10 - text.length();
        }
        keep();
        lay(text.toString());
        return world.size();
    }

    int undo() {
        state(!kept.isEmpty());
        world = kept.removeLast();
        return kept.size();
    }

    long digest() {
        List<Integer> all = new ArrayList<>();
        all.add(text.length());
        for (int what = 0; what <= 11; what++) {
            all.add(value(what));
        }
        for (int i = 0; i < world.size(); i++) {
            for (int what = 0; what <= 3; what++) {
                all.add(cell(i, what));
            }
        }
        for (int i = 0; i < world.blocks(); i++) {
            for (int what = 0; what <= 4; what++) {
                all.add(block(i, what));
            }
        }
        for (int i = 0; i < world.carts.size(); i++) {
            for (int what = 0; what <= 9; what++) {
                all.add(train(i, what));
            }
            all.add(why(i));
        }
        for (int i = 0; i < Math.min(30, world.log.size()); i++) {
            all.add(dispatch(i, 0));
            all.add(dispatch(i, 1));
        }
        all.add(ticksToValley());
        all.add(kept.size());
        long h = 3581;
        for (int v : all) {
            h = 31 * h + v;
        }
        return h;
    }
}
