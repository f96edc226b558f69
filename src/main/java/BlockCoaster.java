/** A roller coaster with block brakes; README.md tells how it is used. */
public final class BlockCoaster {
    public static final int NONE = -1;

    private static final String FIRST_TRACK = "0b1l3l5l7l7b4.1.3.2.4b2.1.0b";

    private static final int MIN_CELLS = 4;
    private static final int MAX_CELLS = 30;
    private static final int MIN_BLOCKS = 2;
    private static final int MAX_BLOCKS = 8;
    private static final int MAX_TRAINS = 4;
    private static final int MAX_HEIGHT = 9;
    private static final int STATION = 0;

    private static final int NEITHER = 0;
    private static final int LIFT = 1;
    private static final int BRAKE = 2;

    private static final int RUNS = 0;
    private static final int STANDS = 1;
    private static final int LIES = 2;

    private static final int WHY_RUNS = 0;
    private static final int WHY_LIES = 1;
    private static final int WHY_NOT_FREE = 2;
    private static final int WHY_DWELL = 3;
    private static final int WHY_GAP = 4;
    private static final int WHY_RELEASED = 5;

    private static final int FRICTION = 0;
    private static final int DWELL = 1;
    private static final int GAP = 2;
    private static final int AIR = 3;
    private static final int[] FIRST_SETTINGS = {3, 5, 0, 20};
    private static final int[] LEAST_SETTINGS = {0, 1, 0, 0};
    private static final int[] GREATEST_SETTINGS = {20, 50, 500, 40};

    private static final int MAX_SQUARE = 9999;
    private static final int SLOW_SQUARE = 25;
    private static final int LIFT_SPEED = 5;
    private static final int CELL_LENGTH = 100;
    private static final int SQUARE_OF_HEIGHT = 100;
    private static final int MAX_WARMTH = 100;
    private static final int WARM = 60;

    private static final int MAX_PASS = 500;
    private static final int MAX_TICKS = 100000;
    private static final int MAX_QUESTION = 2000;
    private static final int GAP_QUESTION = 1000;
    private static final int FRICTION_QUESTION = 500;

    private static final int MAX_LOG = 30;
    private static final int MAX_SAVED = 4;
    private static final int MAX_TEXT = 90;
    private static final int MAX_BYTE = 127;
    private static final int SYNTAX_ERROR = -10;

    private static final int VALUES = 12;
    private static final int TRAIN_VALUES = 10;
    private static final int CELL_VALUES = 4;
    private static final int BLOCK_VALUES = 5;
    private static final int DISPATCH_VALUES = 2;
    private static final long FIRST_HASH = 3581;

    private final Ride now;
    private final Ride trial;
    private final Ride[] saved;
    private final TrackText text;
    private int savedCount;

    public BlockCoaster() {
        now = new Ride();
        trial = new Ride();
        saved = new Ride[MAX_SAVED];
        for (int i = 0; i < MAX_SAVED; i++) {
            saved[i] = new Ride();
        }
        savedCount = 0;
        text = new TrackText();
        now.begin(firstTrack());
    }

    private static TrackText firstTrack() {
        TrackText first = new TrackText();
        for (int i = 0; i < FIRST_TRACK.length(); i++) {
            first.add(FIRST_TRACK.charAt(i));
        }
        return first;
    }

    // ---- coaster

    public int addTrain(int block) throws IndexOutOfBoundsException, IllegalStateException {
        requireBlock(block);
        if (now.trainCount == MAX_TRAINS) {
            throw new IllegalStateException("there are 4 trains");
        }
        if (!now.isFree(block)) {
            throw new IllegalStateException("the block is not free");
        }
        save();
        now.putTrain(block);
        return now.trainCount - 1;
    }

    public int takeTrain() throws IllegalStateException {
        if (now.trainCount == 0) {
            throw new IllegalStateException("there is no train");
        }
        save();
        now.trainCount--;
        return now.trainCount;
    }

    public int rescue(int train) throws IndexOutOfBoundsException, IllegalStateException {
        requireTrain(train);
        Train lying = now.trains[train];
        if (lying.condition != LIES) {
            throw new IllegalStateException("the train does not lie in a valley");
        }
        save();
        int cell = lying.cell;
        lying.standOn(now.track.brakes[now.blockOf(lying)]);
        return cell;
    }

    public int set(int what, int value) throws IndexOutOfBoundsException, IllegalArgumentException {
        if (what < FRICTION || what > AIR) {
            throw new IndexOutOfBoundsException("there is no such number");
        }
        if (value < LEAST_SETTINGS[what] || value > GREATEST_SETTINGS[what]) {
            throw new IllegalArgumentException("the value is out of range");
        }
        save();
        int previous = now.settings[what];
        now.settings[what] = value;
        return previous;
    }

    public int setHeight(int cell, int height) throws IndexOutOfBoundsException, IllegalArgumentException {
        requireCell(cell);
        if (height < 0 || height > MAX_HEIGHT) {
            throw new IllegalArgumentException("the height is out of range");
        }
        save();
        int previous = now.track.heights[cell];
        now.track.heights[cell] = height;
        return previous;
    }

    public int pass(int ticks) throws IllegalArgumentException, IllegalStateException {
        if (ticks < 1 || ticks > MAX_PASS) {
            throw new IllegalArgumentException("the ticks are out of range");
        }
        if (now.ticks + ticks > MAX_TICKS) {
            throw new IllegalStateException("there would be more than 100000 ticks");
        }
        save();
        int before = now.dispatches;
        for (int i = 0; i < ticks; i++) {
            now.tick();
        }
        return now.dispatches - before;
    }

    public int train(int train, int what) throws IndexOutOfBoundsException, IllegalArgumentException {
        requireTrain(train);
        Train asked = now.trains[train];
        switch (what) {
            case 0:
                return asked.cell;
            case 1:
                return now.blockOf(asked);
            case 2:
                return asked.square;
            case 3:
                return asked.progress;
            case 4:
                return asked.warmth;
            case 5:
                return asked.condition;
            case 6:
                return asked.standing;
            case 7:
                return now.dragOf(asked);
            case 8:
                return asked.cellsMoved;
            case 9:
                return asked.stationVisits;
            default:
                throw new IllegalArgumentException("a train has no such value");
        }
    }

    public int cell(int cell, int what) throws IndexOutOfBoundsException, IllegalArgumentException {
        requireCell(cell);
        switch (what) {
            case 0:
                return now.track.heights[cell];
            case 1:
                return now.track.kinds[cell];
            case 2:
                return now.track.blocks[cell];
            case 3:
                return now.trainOnCell(cell);
            default:
                throw new IllegalArgumentException("a cell has no such value");
        }
    }

    public int block(int block, int what) throws IndexOutOfBoundsException, IllegalArgumentException {
        requireBlock(block);
        switch (what) {
            case 0:
                return now.track.firstCell(block);
            case 1:
                return now.track.brakes[block];
            case 2:
                return now.track.blockLength(block);
            case 3:
                return now.trainInBlock(block);
            case 4:
                return now.heldUp[block];
            default:
                throw new IllegalArgumentException("a block has no such value");
        }
    }

    public int value(int what) throws IllegalArgumentException {
        switch (what) {
            case 0:
                return now.track.cellCount;
            case 1:
                return now.track.blockCount;
            case 2:
                return now.trainCount;
            case 3:
                return now.ticks;
            case 4:
                return now.settings[FRICTION];
            case 5:
                return now.settings[DWELL];
            case 6:
                return now.settings[GAP];
            case 7:
                return now.settings[AIR];
            case 8:
                return now.dispatches;
            case 9:
                return now.latestDispatch();
            case 10:
                return now.lyingTrains();
            case 11:
                return now.track.greatestHeight();
            default:
                throw new IllegalArgumentException("there is no such value");
        }
    }

    public int dispatch(int index, int what) throws IndexOutOfBoundsException, IllegalArgumentException {
        if (index < 0 || index >= now.keptDispatches()) {
            throw new IndexOutOfBoundsException("not so many dispatches are kept");
        }
        int place = now.logPlace(index);
        switch (what) {
            case 0:
                return now.logTicks[place];
            case 1:
                return now.logTrains[place];
            default:
                throw new IllegalArgumentException("a dispatch has no such value");
        }
    }

    public int why(int train) throws IndexOutOfBoundsException {
        requireTrain(train);
        return now.reasonOf(now.trains[train]);
    }

    // ---- what if

    public int ticksToStation(int train) throws IndexOutOfBoundsException {
        requireTrain(train);
        trial.copyFrom(now);
        int visits = now.trains[train].stationVisits;
        for (int ticks = 1; ticks <= MAX_QUESTION; ticks++) {
            trial.tick();
            if (trial.trains[train].stationVisits > visits) {
                return ticks;
            }
        }
        return NONE;
    }

    public int ticksToValley() {
        return nextValley(now.settings[FRICTION], MAX_QUESTION);
    }

    public int dispatchesWith(int gap) throws IllegalArgumentException {
        if (gap < LEAST_SETTINGS[GAP] || gap > GREATEST_SETTINGS[GAP]) {
            throw new IllegalArgumentException("the gap is out of range");
        }
        trial.copyFrom(now);
        trial.settings[GAP] = gap;
        for (int i = 0; i < GAP_QUESTION; i++) {
            trial.tick();
        }
        return trial.dispatches - now.dispatches;
    }

    public int mostFriction() {
        // Each one is tried: a greater friction makes trains slower, and may put their valley behind the 500 ticks.
        for (int friction = GREATEST_SETTINGS[FRICTION]; friction >= LEAST_SETTINGS[FRICTION]; friction--) {
            if (nextValley(friction, FRICTION_QUESTION) == NONE) {
                return friction;
            }
        }
        return NONE;
    }

    public int leastSquare(int cell) throws IndexOutOfBoundsException {
        requireCell(cell);
        return now.track.leastSquareToBrake(cell, now.settings[FRICTION]);
    }

    public double meanWarmth() {
        if (now.trainCount == 0) {
            return 0.0;
        }
        int sum = 0;
        for (int i = 0; i < now.trainCount; i++) {
            sum += now.trains[i].warmth;
        }
        return (double) sum / (double) now.trainCount;
    }

    // ---- text

    public int append(int value) throws IllegalArgumentException, IllegalStateException {
        if (value < 0 || value > MAX_BYTE) {
            throw new IllegalArgumentException("the value is no byte of a text");
        }
        if (text.length == MAX_TEXT) {
            throw new IllegalStateException("the text has 90 bytes");
        }
        text.add(value);
        return text.length;
    }

    public int clearText() {
        int length = text.length;
        text.clear();
        return length;
    }

    public int parse() {
        int position = text.errorPosition();
        if (position != NONE) {
            return SYNTAX_ERROR - position;
        }
        save();
        now.begin(text);
        return now.track.cellCount;
    }

    // ---- state

    public int undo() throws IllegalStateException {
        if (savedCount == 0) {
            throw new IllegalStateException("there is no saved state");
        }
        savedCount--;
        now.copyFrom(saved[savedCount]);
        return savedCount;
    }

    public long digest() {
        long hash = hashWith(FIRST_HASH, text.length);
        for (int what = 0; what < VALUES; what++) {
            hash = hashWith(hash, value(what));
        }
        hash = hashOfCells(hash);
        hash = hashOfBlocks(hash);
        hash = hashOfTrains(hash);
        hash = hashOfDispatches(hash);
        hash = hashWith(hash, nextValley(now.settings[FRICTION], MAX_QUESTION));
        return hashWith(hash, savedCount);
    }

    private long hashOfCells(long start) {
        long hash = start;
        for (int cell = 0; cell < now.track.cellCount; cell++) {
            for (int what = 0; what < CELL_VALUES; what++) {
                hash = hashWith(hash, cell(cell, what));
            }
        }
        return hash;
    }

    private long hashOfBlocks(long start) {
        long hash = start;
        for (int block = 0; block < now.track.blockCount; block++) {
            for (int what = 0; what < BLOCK_VALUES; what++) {
                hash = hashWith(hash, block(block, what));
            }
        }
        return hash;
    }

    private long hashOfTrains(long start) {
        long hash = start;
        for (int train = 0; train < now.trainCount; train++) {
            for (int what = 0; what < TRAIN_VALUES; what++) {
                hash = hashWith(hash, train(train, what));
            }
            hash = hashWith(hash, why(train));
        }
        return hash;
    }

    private long hashOfDispatches(long start) {
        long hash = start;
        int kept = now.keptDispatches();
        for (int index = 0; index < kept; index++) {
            for (int what = 0; what < DISPATCH_VALUES; what++) {
                hash = hashWith(hash, dispatch(index, what));
            }
        }
        return hash;
    }

    private static long hashWith(long hash, long value) {
        return 31 * hash + value;
    }

    private int nextValley(int friction, int limit) {
        trial.copyFrom(now);
        trial.settings[FRICTION] = friction;
        // A tick frees no train from its valley, so one more that lies is one that did not lie.
        int lying = trial.lyingTrains();
        for (int ticks = 1; ticks <= limit; ticks++) {
            trial.tick();
            if (trial.lyingTrains() > lying) {
                return ticks;
            }
        }
        return NONE;
    }

    private void save() {
        if (savedCount == MAX_SAVED) {
            // The row of the oldest state is used again for the newest one.
            Ride oldest = saved[0];
            for (int i = 1; i < MAX_SAVED; i++) {
                saved[i - 1] = saved[i];
            }
            savedCount = MAX_SAVED - 1;
            saved[savedCount] = oldest;
        }
        saved[savedCount].copyFrom(now);
        savedCount++;
    }

    private void requireTrain(int train) {
        if (train < 0 || train >= now.trainCount) {
            throw new IndexOutOfBoundsException("there is no such train");
        }
    }

    private void requireCell(int cell) {
        if (cell < 0 || cell >= now.track.cellCount) {
            throw new IndexOutOfBoundsException("there is no such cell");
        }
    }

    private void requireBlock(int block) {
        if (block < 0 || block >= now.track.blockCount) {
            throw new IndexOutOfBoundsException("there is no such block");
        }
    }

    /** The text from which a track is read. */
    private static final class TrackText {
        final int[] bytes = new int[MAX_TEXT];
        int length = 0;

        void add(int value) {
            if (length < MAX_TEXT) {
                bytes[length] = value;
                length++;
            }
        }

        void clear() {
            length = 0;
        }

        int errorPosition() {
            int brakes = 0;
            for (int i = 0; i < length; i++) {
                boolean fits = i % 2 == 0 ? heightFits(i) : kindFits(i, brakes);
                if (!fits) {
                    return i;
                }
                if (bytes[i] == 'b') {
                    brakes++;
                }
            }
            boolean whole = length % 2 == 0 && length / 2 >= MIN_CELLS && brakes >= MIN_BLOCKS;
            return whole ? NONE : length;
        }

        private boolean heightFits(int index) {
            return index / 2 < MAX_CELLS && bytes[index] >= '0' && bytes[index] <= '9';
        }

        private boolean kindFits(int index, int brakesBefore) {
            int kind = bytes[index];
            return kind == 'l' || kind == '.' || kind == 'b' && brakesBefore < MAX_BLOCKS;
        }
    }

    /** The ring of cells. */
    private static final class Track {
        final int[] heights = new int[MAX_CELLS];
        final int[] kinds = new int[MAX_CELLS];
        final int[] blocks = new int[MAX_CELLS];
        final int[] brakes = new int[MAX_BLOCKS];
        int cellCount = 0;
        int blockCount = 0;

        void copyFrom(Track other) {
            System.arraycopy(other.heights, 0, heights, 0, MAX_CELLS);
            System.arraycopy(other.kinds, 0, kinds, 0, MAX_CELLS);
            System.arraycopy(other.blocks, 0, blocks, 0, MAX_CELLS);
            System.arraycopy(other.brakes, 0, brakes, 0, MAX_BLOCKS);
            cellCount = other.cellCount;
            blockCount = other.blockCount;
        }

        /** The text has no syntax error, so there is room for its cells and its brakes. */
        void read(TrackText text) {
            cellCount = text.length / 2;
            blockCount = 0;
            for (int cell = 0; cell < cellCount; cell++) {
                heights[cell] = text.bytes[2 * cell] - '0';
                kinds[cell] = kindOf(text.bytes[2 * cell + 1]);
                blocks[cell] = blockCount;
                if (kinds[cell] == BRAKE) {
                    brakes[blockCount] = cell;
                    blockCount++;
                }
            }
            closeRing();
        }

        private static int kindOf(int letter) {
            if (letter == 'b') {
                return BRAKE;
            }
            return letter == 'l' ? LIFT : NEITHER;
        }

        /** The cells behind the last brake cell were given a block too many: theirs ends at the first brake cell. */
        private void closeRing() {
            for (int cell = 0; cell < cellCount; cell++) {
                if (blocks[cell] == blockCount) {
                    blocks[cell] = 0;
                }
            }
        }

        int nextCell(int cell) {
            return cell + 1 < cellCount ? cell + 1 : 0;
        }

        int nextBlock(int block) {
            return block + 1 < blockCount ? block + 1 : 0;
        }

        int brakeBefore(int block) {
            return brakes[block > 0 ? block - 1 : blockCount - 1];
        }

        int firstCell(int block) {
            return nextCell(brakeBefore(block));
        }

        int blockLength(int block) {
            int length = brakes[block] - brakeBefore(block);
            return length > 0 ? length : length + cellCount;
        }

        int greatestHeight() {
            int greatest = 0;
            for (int cell = 0; cell < cellCount; cell++) {
                greatest = Math.max(greatest, heights[cell]);
            }
            return greatest;
        }

        /** The square on the next cell; below 0 if it is not reached. */
        int squareBehind(int cell, int square, int drag) {
            int next = nextCell(cell);
            if (kinds[next] == LIFT) {
                return SLOW_SQUARE;
            }
            int gained = SQUARE_OF_HEIGHT * (heights[cell] - heights[next]) - drag;
            return Math.min(square + gained, MAX_SQUARE);
        }

        boolean isValley(int cell, int square) {
            return square == 0 && kinds[cell] == NEITHER;
        }

        int leastSquareToBrake(int cell, int drag) {
            // A train with a greater square is never behind, so the squares that fail come ahead of all others.
            int failing = 0;
            for (int step = 8192; step > 0; step /= 2) {
                int tried = failing + step;
                if (tried - 1 <= MAX_SQUARE && !comesToBrake(cell, tried - 1, drag)) {
                    failing = tried;
                }
            }
            return failing > MAX_SQUARE ? NONE : failing;
        }

        private boolean comesToBrake(int start, int startSquare, int drag) {
            int cell = start;
            int square = startSquare;
            for (int moves = 0; moves < cellCount && kinds[cell] != BRAKE; moves++) {
                square = squareBehind(cell, square, drag);
                cell = nextCell(cell);
                if (square < 0 || isValley(cell, square)) {
                    return false;
                }
            }
            return true;
        }
    }

    /** One train. */
    private static final class Train {
        int cell = 0;
        int square = 0;
        int progress = 0;
        int warmth = 0;
        int condition = STANDS;
        int standing = 0;
        int cellsMoved = 0;
        int stationVisits = 0;

        void copyFrom(Train other) {
            cell = other.cell;
            square = other.square;
            progress = other.progress;
            warmth = other.warmth;
            condition = other.condition;
            standing = other.standing;
            cellsMoved = other.cellsMoved;
            stationVisits = other.stationVisits;
        }

        void begin(int brake, int air) {
            standOn(brake);
            warmth = air;
            cellsMoved = 0;
            stationVisits = 0;
        }

        void standOn(int brake) {
            cell = brake;
            square = 0;
            progress = 0;
            condition = STANDS;
            standing = 0;
        }

        void lie() {
            square = 0;
            progress = 0;
            condition = LIES;
        }

        void start() {
            square = SLOW_SQUARE;
            progress = 0;
            condition = RUNS;
            standing = 0;
        }

        void moveTo(int nextCell, int nextSquare) {
            cell = nextCell;
            square = nextSquare;
            cellsMoved++;
        }

        int speed() {
            int root = 0;
            for (int step = 64; step > 0; step /= 2) {
                int tried = root + step;
                if (tried * tried <= square) {
                    root = tried;
                }
            }
            return root;
        }

        void passWarmth(int air) {
            if (condition == RUNS) {
                warmth = Math.min(warmth + speed() / 10, MAX_WARMTH);
            }
            if (warmth < air) {
                warmth++;
            } else if (warmth > air) {
                warmth--;
            }
        }
    }

    /** All that undo brings back: the track, its trains, the numbers that are set, and what is counted. */
    private static final class Ride {
        final Track track = new Track();
        final Train[] trains = new Train[MAX_TRAINS];
        final int[] settings = FIRST_SETTINGS.clone();
        final int[] heldUp = new int[MAX_BLOCKS];
        final int[] logTicks = new int[MAX_LOG];
        final int[] logTrains = new int[MAX_LOG];
        int trainCount = 0;
        int ticks = 0;
        int dispatches = 0;

        Ride() {
            for (int i = 0; i < MAX_TRAINS; i++) {
                trains[i] = new Train();
            }
        }

        void copyFrom(Ride other) {
            track.copyFrom(other.track);
            for (int i = 0; i < MAX_TRAINS; i++) {
                trains[i].copyFrom(other.trains[i]);
            }
            System.arraycopy(other.settings, 0, settings, 0, settings.length);
            System.arraycopy(other.heldUp, 0, heldUp, 0, MAX_BLOCKS);
            System.arraycopy(other.logTicks, 0, logTicks, 0, MAX_LOG);
            System.arraycopy(other.logTrains, 0, logTrains, 0, MAX_LOG);
            trainCount = other.trainCount;
            ticks = other.ticks;
            dispatches = other.dispatches;
        }

        void begin(TrackText text) {
            track.read(text);
            trainCount = 0;
            ticks = 0;
            dispatches = 0;
            for (int block = 0; block < MAX_BLOCKS; block++) {
                heldUp[block] = 0;
            }
        }

        void putTrain(int block) {
            if (trainCount < MAX_TRAINS) {
                trains[trainCount].begin(track.brakes[block], settings[AIR]);
                trainCount++;
            }
        }

        int blockOf(Train train) {
            return track.blocks[train.cell];
        }

        int dragOf(Train train) {
            int cold = train.warmth < WARM ? (WARM - train.warmth) / 10 : 0;
            return settings[FRICTION] + cold;
        }

        int trainOnCell(int cell) {
            for (int i = 0; i < trainCount; i++) {
                if (trains[i].cell == cell) {
                    return i;
                }
            }
            return NONE;
        }

        int trainInBlock(int block) {
            for (int i = 0; i < trainCount; i++) {
                if (track.blocks[trains[i].cell] == block) {
                    return i;
                }
            }
            return NONE;
        }

        boolean isFree(int block) {
            int coming = trainOnCell(track.brakeBefore(block));
            if (coming != NONE && trains[coming].condition == RUNS) {
                return false;
            }
            return trainInBlock(block) == NONE;
        }

        int lyingTrains() {
            int lying = 0;
            for (int i = 0; i < trainCount; i++) {
                if (trains[i].condition == LIES) {
                    lying++;
                }
            }
            return lying;
        }

        int keptDispatches() {
            return Math.min(dispatches, MAX_LOG);
        }

        /** The log goes round: the place of a dispatch that is kept, 0 for the latest one. */
        int logPlace(int index) {
            return (dispatches - 1 - index) % MAX_LOG;
        }

        int latestDispatch() {
            return dispatches == 0 ? NONE : logTicks[logPlace(0)];
        }

        int reasonOf(Train train) {
            if (train.condition == RUNS) {
                return WHY_RUNS;
            }
            if (train.condition == LIES) {
                return WHY_LIES;
            }
            int block = blockOf(train);
            if (!isFree(track.nextBlock(block))) {
                return WHY_NOT_FREE;
            }
            boolean atStation = block == STATION;
            if (atStation && train.standing + 1 < settings[DWELL]) {
                return WHY_DWELL;
            }
            if (atStation && dispatches > 0 && ticks - latestDispatch() < settings[GAP]) {
                return WHY_GAP;
            }
            return WHY_RELEASED;
        }

        void tick() {
            for (int i = 0; i < trainCount; i++) {
                if (trains[i].condition == STANDS) {
                    waitOrStart(i);
                } else if (trains[i].condition == RUNS) {
                    run(trains[i]);
                }
                trains[i].passWarmth(settings[AIR]);
            }
            ticks++;
        }

        private void waitOrStart(int number) {
            Train train = trains[number];
            if (reasonOf(train) != WHY_RELEASED) {
                train.standing++;
                return;
            }
            train.start();
            if (blockOf(train) == STATION) {
                logDispatch(number);
            }
        }

        private void logDispatch(int number) {
            dispatches++;
            int place = logPlace(0);
            logTicks[place] = ticks;
            logTrains[place] = number;
        }

        private void run(Train train) {
            train.progress += track.kinds[train.cell] == LIFT ? LIFT_SPEED : train.speed();
            if (train.progress < CELL_LENGTH) {
                return;
            }
            // Progress and speed are 99 at most: there is never a second cell in one tick.
            train.progress -= CELL_LENGTH;
            int square = track.squareBehind(train.cell, train.square, dragOf(train));
            if (square < 0) {
                train.lie();
                return;
            }
            train.moveTo(track.nextCell(train.cell), square);
            if (track.kinds[train.cell] == BRAKE) {
                comeToBrake(train);
            } else if (track.isValley(train.cell, square)) {
                train.lie();
            }
        }

        private void comeToBrake(Train train) {
            // It stands first: a train that runs on this brake cell would itself keep the next block from being free.
            train.standOn(train.cell);
            int block = blockOf(train);
            if (block == STATION) {
                train.stationVisits++;
            }
            if (!isFree(track.nextBlock(block))) {
                heldUp[block]++;
            }
        }
    }
}
