/**
 * Skaters who carve a pond into rinks that they then own.
 *
 * Sets of cells are longs: the bit c stands for the cell with the number c. So a rink, the cells of
 * a skater and the cells that thaw are all found without an index into an array.
 */
public final class CarvedRinks {
    /** There is nothing to return. */
    public static final int NONE = -1;

    private static final int SIDE = 8;
    private static final int POINTS = 9;
    private static final int CELLS = 64;
    private static final int EAST_LINES = 72;
    private static final int LINES = 144;
    private static final int SKATERS = 3;
    private static final int SETTINGS = 3;

    private static final int NORTH = 0;
    private static final int EAST = 1;
    private static final int SOUTH = 2;
    private static final int WEST = 3;

    private static final int MOST_STEPS = 8;
    private static final int MOST_COINS = 99;
    private static final int MOST_FILLED = 9999;
    private static final int FIRST_PURSE = 20;

    private static final int TOLL = 0;
    private static final int BEARABLE_WEAR = 1;
    private static final int WATER_FOR_THAW = 2;

    private static final int CAN_STEP = 0;
    private static final int NO_POINT = 1;
    private static final int POINT_TAKEN = 2;
    private static final int NO_ICE = 3;
    private static final int PURSE_TOO_LOW = 4;

    private static final long ALL_CELLS = -1L;
    private static final long NO_CELLS = 0L;
    private static final long WEST_COLUMN = 0x0101010101010101L;
    private static final long EAST_COLUMN = 0x8080808080808080L;

    private static final long FIRST_HASH = 3727L;

    private final Pond pond;
    private final Pond trial;
    private final Pond snapshot;
    private final SavedPonds saved;
    private final GlideText text;
    private final RinkJoiner joiner;
    private boolean hasSnapshot;

    public CarvedRinks() {
        pond = new Pond();
        trial = new Pond();
        snapshot = new Pond();
        saved = new SavedPonds();
        text = new GlideText();
        joiner = new RinkJoiner();
        hasSnapshot = false;
    }

    // ---- skaters

    /** Lets a skater glide, up to so many steps; returns how many are made. */
    public int glide(int skater, int direction, int steps)
            throws IndexOutOfBoundsException, IllegalArgumentException {
        if (!isSkater(skater)) {
            throw new IndexOutOfBoundsException("no such skater");
        }
        if (!isDirection(direction) || !isSteps(steps)) {
            throw new IllegalArgumentException("direction or steps out of range");
        }
        saved.push(pond);
        return pond.makeSteps(skater, direction, steps);
    }

    /** Lets the pond thaw; returns how many cells become water. */
    public int thaw() {
        saved.push(pond);
        return pond.thawOnce();
    }

    /** Makes a cell water; returns who owned it. */
    public int hole(int x, int y) throws IndexOutOfBoundsException, IllegalStateException {
        long bit = cellBit(x, y);
        if (bit == NO_CELLS) {
            throw new IndexOutOfBoundsException("no such cell");
        }
        if (!pond.isIce(bit)) {
            throw new IllegalStateException("the cell is water");
        }
        saved.push(pond);
        int owner = pond.ownerOf(bit);
        pond.makeWater(bit);
        return owner;
    }

    /** Fills a purse; returns what is in it then. */
    public int pay(int skater, int coins)
            throws IndexOutOfBoundsException, IllegalArgumentException, IllegalStateException {
        if (!isSkater(skater)) {
            throw new IndexOutOfBoundsException("no such skater");
        }
        if (coins < 1 || coins > MOST_COINS) {
            throw new IllegalArgumentException("coins out of range");
        }
        if (pond.filled + coins > MOST_FILLED) {
            throw new IllegalStateException("too much would be filled into purses");
        }
        saved.push(pond);
        Skater paid = pond.skaters[skater];
        paid.purse += coins;
        pond.filled += coins;
        return paid.purse;
    }

    /** Changes a setting; returns its previous value. */
    public int set(int setting, int value)
            throws IndexOutOfBoundsException, IllegalArgumentException {
        if (!isSetting(setting)) {
            throw new IndexOutOfBoundsException("no such setting");
        }
        if (value < leastValue(setting) || value > mostValue(setting)) {
            throw new IllegalArgumentException("value out of range");
        }
        saved.push(pond);
        int previous = pond.settings[setting];
        pond.settings[setting] = value;
        return previous;
    }

    // ---- texts, the snapshot

    /** Appends a character to the buffer; returns its new length. */
    public int append(int code) throws IllegalArgumentException, IllegalStateException {
        if (code < GlideText.LEAST_CODE || code > GlideText.MOST_CODE) {
            throw new IllegalArgumentException("code out of range");
        }
        if (text.isFull()) {
            throw new IllegalStateException("the buffer is full");
        }
        text.add(code);
        return text.length;
    }

    /** Clears the buffer; returns the length that it had. */
    public int clearBuffer() {
        int previous = text.length;
        text.length = 0;
        return previous;
    }

    /** Returns the index of the first syntax error of the buffer; its length if there is none. */
    public int firstError() {
        return text.errorIndex();
    }

    /** Does the glides in the buffer and clears it; returns how many steps are made. */
    public int play() throws IllegalArgumentException {
        if (!text.isComplete()) {
            throw new IllegalArgumentException("the buffer is not complete glides");
        }
        saved.push(pond);
        int made = text.playOn(pond);
        text.length = 0;
        return made;
    }

    /** Takes a snapshot of the state; returns how many cells are ice. */
    public int keep() {
        snapshot.copyFrom(pond);
        hasSnapshot = true;
        return pond.iceCells();
    }

    /** Goes back to the snapshot, which stays; returns how many cells are ice then. */
    public int goBack() throws IllegalStateException {
        if (!hasSnapshot) {
            throw new IllegalStateException("there is no snapshot");
        }
        saved.push(pond);
        pond.copyFrom(snapshot);
        return pond.iceCells();
    }

    /** Restores the latest saved state, and drops it; returns how many are left. */
    public int undo() throws IllegalStateException {
        if (saved.size == 0) {
            throw new IllegalStateException("there is no saved state");
        }
        saved.popInto(pond);
        return saved.size;
    }

    // ---- looks; nothing is changed

    /** Tells something of a cell. */
    public int cell(int x, int y, int what)
            throws IndexOutOfBoundsException, IllegalArgumentException {
        long bit = cellBit(x, y);
        if (bit == NO_CELLS) {
            throw new IndexOutOfBoundsException("no such cell");
        }
        if (what < 0 || what > 5) {
            throw new IllegalArgumentException("what out of range");
        }
        return cellNumber(bit, what);
    }

    /** Tells something of a line. */
    public int line(int x, int y, int direction, int what)
            throws IndexOutOfBoundsException, IllegalArgumentException {
        boolean directed = direction == EAST || direction == SOUTH;
        int line = Lines.leading(x, y, direction);
        if (!isPoint(x, y) || (directed && line == NONE)) {
            throw new IndexOutOfBoundsException("no such point or line");
        }
        if (!directed || what < 0 || what > 2) {
            throw new IllegalArgumentException("direction or what out of range");
        }
        return lineNumber(line, what);
    }

    /** Tells something of a skater. */
    public int skater(int skater, int what)
            throws IndexOutOfBoundsException, IllegalArgumentException {
        if (!isSkater(skater)) {
            throw new IndexOutOfBoundsException("no such skater");
        }
        if (what < 0 || what > 8) {
            throw new IllegalArgumentException("what out of range");
        }
        return skaterNumber(skater, what);
    }

    /** Tells something of the rink with a rank. */
    public int rink(int rank, int what)
            throws IndexOutOfBoundsException, IllegalArgumentException {
        if (rank < 0) {
            throw new IndexOutOfBoundsException("rank below 0");
        }
        if (what < 0 || what > 2) {
            throw new IllegalArgumentException("what out of range");
        }
        long rink = pond.rinkWithRank(rank);
        return rink == NO_CELLS ? NONE : rinkNumber(rink, what);
    }

    /** Returns a number. */
    public int count(int what) throws IllegalArgumentException {
        if (what < 0 || what > 11) {
            throw new IllegalArgumentException("what out of range");
        }
        return stateNumber(what);
    }

    /** Returns the value of a setting. */
    public int setting(int setting) throws IndexOutOfBoundsException {
        if (!isSetting(setting)) {
            throw new IndexOutOfBoundsException("no such setting");
        }
        return pond.settings[setting];
    }

    /** Tells why a skater can not make a step; 0 if it can. */
    public int why(int skater, int direction)
            throws IndexOutOfBoundsException, IllegalArgumentException {
        if (!isSkater(skater)) {
            throw new IndexOutOfBoundsException("no such skater");
        }
        if (!isDirection(direction)) {
            throw new IllegalArgumentException("direction out of range");
        }
        return pond.reasonAgainst(skater, direction);
    }

    // ---- what would be; nothing is changed

    /** Tells what a glide would bring. */
    public int ifGlided(int skater, int direction, int steps, int what)
            throws IndexOutOfBoundsException, IllegalArgumentException {
        if (!isSkater(skater)) {
            throw new IndexOutOfBoundsException("no such skater");
        }
        if (!isDirection(direction) || !isSteps(steps) || what < 0 || what > 3) {
            throw new IllegalArgumentException("direction, steps or what out of range");
        }
        trial.copyFrom(pond);
        int made = trial.makeSteps(skater, direction, steps);
        switch (what) {
            case 0:
                return made;
            case 1:
                return trial.skaters[skater].ownedCells() - pond.skaters[skater].ownedCells();
            case 2:
                return trial.skaters[skater].tollsPaid - pond.skaters[skater].tollsPaid;
            default:
                return trial.rinksByGoing();
        }
    }

    /** Finds the best glide of a skater; NONE if it can make no step. */
    public int best(int skater) throws IndexOutOfBoundsException {
        if (!isSkater(skater)) {
            throw new IndexOutOfBoundsException("no such skater");
        }
        return bestGlide(skater);
    }

    /** Tells how many thaws it takes until nothing thaws any more. */
    public int calm() {
        return pond.thawsUntilCalm();
    }

    /** Returns how much of the ice is owned. */
    public double ownedShare() {
        int ice = pond.iceCells();
        return ice == 0 ? 0.0 : (double) pond.ownedCells() / (double) ice;
    }

    /** Returns how large rinks are. */
    public float meanRink() {
        int rinks = pond.rinksByGoing();
        return rinks == 0 ? 0.0f : (float) pond.iceCells() / (float) rinks;
    }

    /** Computes a hash of the whole state. */
    public long digest() {
        long hash = FIRST_HASH;
        for (int what = 0; what <= 11; what++) {
            hash = 31 * hash + stateNumber(what);
        }
        for (int setting = 0; setting < SETTINGS; setting++) {
            hash = 31 * hash + pond.settings[setting];
        }
        hash = hashCells(hash);
        hash = hashLines(hash);
        hash = hashSkaters(hash);
        hash = hashRinks(hash);
        hash = 31 * hash + pond.thawsUntilCalm();
        hash = 31 * hash + floatingBits(ownedShare(), 1023, 52);
        hash = 31 * hash + floatingBits(meanRink(), 127, 23);
        hash = 31 * hash + (hasSnapshot ? 1 : 0);
        return hashText(hash);
    }

    // ---- the numbers behind the looks

    private int cellNumber(long bit, int what) {
        switch (what) {
            case 0:
                return pond.isIce(bit) ? 1 : 0;
            case 1:
                return pond.ownerOf(bit);
            case 2:
                return pond.isIce(bit) ? lowestOf(pond.rinkOf(bit)) : NONE;
            case 3:
                return Long.bitCount(pond.rinkOf(bit));
            case 4:
                return Long.bitCount(cellsBeside(bit) & ~pond.ice);
            default:
                return pond.thawsUntilWater(bit);
        }
    }

    private int lineNumber(int line, int what) {
        switch (what) {
            case 0:
                return pond.wear[line];
            case 1:
                return pond.isCut(line) ? 1 : 0;
            default:
                return Long.bitCount(Lines.cellsAt(line) & pond.ice);
        }
    }

    private int skaterNumber(int skater, int what) {
        Skater told = pond.skaters[skater];
        switch (what) {
            case 0:
                return told.x;
            case 1:
                return told.y;
            case 2:
                return told.purse;
            case 3:
                return told.ownedCells();
            case 4:
                return pond.cellsOfRinks(skater);
            case 5:
                return pond.rinksOwnedBy(skater);
            case 6:
                return told.steps;
            case 7:
                return told.tollsPaid;
            default:
                return told.tollsGot;
        }
    }

    private int rinkNumber(long rink, int what) {
        int lowest = lowestOf(rink);
        switch (what) {
            case 0:
                return lowest;
            case 1:
                return Long.bitCount(rink);
            default:
                return pond.ownerOf(1L << lowest);
        }
    }

    private int stateNumber(int what) {
        switch (what) {
            case 0:
                return pond.iceCells();
            case 1:
                return pond.rinksByGoing();
            case 2:
                return joiner.rinksByJoining(pond);
            case 3:
                return pond.rinksOwned();
            case 4:
                return Long.bitCount(pond.cutNorth) + Long.bitCount(pond.cutWest);
            case 5:
                return pond.crackedLines;
            case 6:
                return pond.thaws;
            case 7:
                return pond.meltedCells;
            case 8:
                return pond.allPurses();
            case 9:
                return pond.filled;
            case 10:
                return pond.greatestRink();
            default:
                return saved.size;
        }
    }

    /** Tries each direction once, step by step: a shorter glide is how a longer one begins. */
    private int bestGlide(int skater) {
        int before = pond.skaters[skater].ownedCells();
        int found = NONE;
        int mostGained = 0;
        for (int direction = NORTH; direction <= WEST; direction++) {
            trial.copyFrom(pond);
            for (int steps = 1; steps <= MOST_STEPS; steps++) {
                if (trial.reasonAgainst(skater, direction) != CAN_STEP) {
                    break;
                }
                trial.makeStep(skater, direction);
                int gained = trial.skaters[skater].ownedCells() - before;
                if (found == NONE || gained > mostGained) {
                    found = 10 * direction + steps;
                    mostGained = gained;
                }
            }
        }
        return found;
    }

    // ---- the parts of the digest

    private long hashCells(long start) {
        long hash = start;
        for (int cell = 0; cell < CELLS; cell++) {
            for (int what = 0; what <= 5; what++) {
                hash = 31 * hash + cellNumber(1L << cell, what);
            }
        }
        return hash;
    }

    private long hashLines(long start) {
        long hash = start;
        for (int point = 0; point < POINTS * POINTS; point++) {
            for (int direction = EAST; direction <= SOUTH; direction++) {
                int line = Lines.leading(point % POINTS, point / POINTS, direction);
                if (line == NONE) {
                    continue;
                }
                for (int what = 0; what <= 2; what++) {
                    hash = 31 * hash + lineNumber(line, what);
                }
            }
        }
        return hash;
    }

    private long hashSkaters(long start) {
        long hash = start;
        for (int skater = 0; skater < SKATERS; skater++) {
            for (int what = 0; what <= 8; what++) {
                hash = 31 * hash + skaterNumber(skater, what);
            }
            for (int direction = NORTH; direction <= WEST; direction++) {
                hash = 31 * hash + pond.reasonAgainst(skater, direction);
            }
            hash = 31 * hash + bestGlide(skater);
        }
        return hash;
    }

    private long hashRinks(long start) {
        long hash = start;
        long rest = pond.ice;
        for (int rank = 0; rank < CELLS && rest != NO_CELLS; rank++) {
            long rink = pond.rinkOf(lowestBit(rest));
            for (int what = 0; what <= 2; what++) {
                hash = 31 * hash + rinkNumber(rink, what);
            }
            rest &= ~rink;
        }
        return hash;
    }

    private long hashText(long start) {
        long hash = 31 * start + text.length;
        for (int index = 0; index < text.length; index++) {
            hash = 31 * hash + text.codes[index];
        }
        return hash;
    }

    /**
     * The bits of a floating number that is 0 or at least a 64th, made by arithmetic, for
     * LANGUAGE.md lists no library call that tells them; every step of it is exact.
     */
    private static long floatingBits(double value, int bias, int fractionBits) {
        if (!(value > 0.0)) {
            return 0L;
        }
        double scaled = value;
        long exponent = bias;
        for (int halves = 0; halves < CELLS && scaled >= 2.0; halves++) {
            scaled = scaled / 2.0;
            exponent++;
        }
        for (int doubles = 0; doubles < CELLS && scaled < 1.0; doubles++) {
            scaled = scaled * 2.0;
            exponent--;
        }
        double fraction = (scaled - 1.0) * (double) (1L << fractionBits);
        return (exponent << fractionBits) + (long) fraction;
    }

    // ---- ranges

    private static boolean isSkater(int skater) {
        return skater >= 0 && skater < SKATERS;
    }

    private static boolean isDirection(int direction) {
        return direction >= NORTH && direction <= WEST;
    }

    private static boolean isSteps(int steps) {
        return steps >= 1 && steps <= MOST_STEPS;
    }

    private static boolean isPoint(int x, int y) {
        return x >= 0 && x < POINTS && y >= 0 && y < POINTS;
    }

    private static boolean isSetting(int setting) {
        return setting >= 0 && setting < SETTINGS;
    }

    private static int leastValue(int setting) {
        return setting == TOLL ? 0 : 1;
    }

    private static int mostValue(int setting) {
        return setting == WATER_FOR_THAW ? 4 : 9;
    }

    // ---- sets of cells

    /** The set of one cell; empty if there is no such cell. */
    private static long cellBit(int x, int y) {
        boolean inPond = x >= 0 && x < SIDE && y >= 0 && y < SIDE;
        return inPond ? 1L << (SIDE * y + x) : NO_CELLS;
    }

    private static long lowestBit(long cells) {
        return cells & -cells;
    }

    /** The number of the lowest cell of a set that is not empty. */
    private static int lowestOf(long cells) {
        return Long.bitCount(lowestBit(cells) - 1);
    }

    private static long northOf(long cells) {
        return cells >>> SIDE;
    }

    private static long southOf(long cells) {
        return cells << SIDE;
    }

    private static long westOf(long cells) {
        return (cells & ~WEST_COLUMN) >>> 1;
    }

    private static long eastOf(long cells) {
        return (cells & ~EAST_COLUMN) << 1;
    }

    private static long cellsBeside(long cells) {
        return northOf(cells) | eastOf(cells) | southOf(cells) | westOf(cells);
    }

    /** The ice cells that have at least so many water cells beside them. */
    private static long thawingCells(long ice, int bound) {
        long water = ~ice;
        long north = southOf(water);
        long south = northOf(water);
        long west = eastOf(water);
        long east = westOf(water);
        long column = north | south;
        long row = west | east;
        long wholeColumn = north & south;
        long wholeRow = west & east;
        switch (bound) {
            case 1:
                return ice & (column | row);
            case 2:
                return ice & (wholeColumn | wholeRow | (column & row));
            case 3:
                return ice & ((wholeColumn & row) | (wholeRow & column));
            default:
                return ice & wholeColumn & wholeRow;
        }
    }

    /** The lines by their numbers: 0 to 71 lead east, 72 to 143 lead south. */
    private static final class Lines {

        /** The line by which a step from a point leads; NONE if there is none. */
        static int leading(int x, int y, int direction) {
            switch (direction) {
                case NORTH:
                    return leadingSouth(x, y - 1);
                case EAST:
                    return leadingEast(x, y);
                case SOUTH:
                    return leadingSouth(x, y);
                case WEST:
                    return leadingEast(x - 1, y);
                default:
                    return NONE;
            }
        }

        private static int leadingEast(int x, int y) {
            boolean stands = x >= 0 && x < SIDE && y >= 0 && y < POINTS;
            return stands ? SIDE * y + x : NONE;
        }

        private static int leadingSouth(int x, int y) {
            boolean stands = x >= 0 && x < POINTS && y >= 0 && y < SIDE;
            return stands ? EAST_LINES + POINTS * y + x : NONE;
        }

        static boolean leadsEast(int line) {
            return line < EAST_LINES;
        }

        /** The cell south of a line that leads east, or east of one that leads south. */
        static long higherCell(int line) {
            if (leadsEast(line)) {
                return cellBit(line % SIDE, line / SIDE);
            }
            int south = line - EAST_LINES;
            return cellBit(south % POINTS, south / POINTS);
        }

        /** The cell north of a line that leads east, or west of one that leads south. */
        static long lowerCell(int line) {
            if (leadsEast(line)) {
                return cellBit(line % SIDE, line / SIDE - 1);
            }
            int south = line - EAST_LINES;
            return cellBit(south % POINTS - 1, south / POINTS);
        }

        static long cellsAt(int line) {
            return lowerCell(line) | higherCell(line);
        }
    }

    /** A skater with what it owns and what is counted of it. */
    private static final class Skater {
        int x;
        int y;
        int purse;
        int steps;
        int tollsPaid;
        int tollsGot;
        long owned;

        Skater(int firstX, int firstY) {
            x = firstX;
            y = firstY;
            purse = FIRST_PURSE;
            steps = 0;
            tollsPaid = 0;
            tollsGot = 0;
            owned = NO_CELLS;
        }

        void copyFrom(Skater other) {
            x = other.x;
            y = other.y;
            purse = other.purse;
            steps = other.steps;
            tollsPaid = other.tollsPaid;
            tollsGot = other.tollsGot;
            owned = other.owned;
        }

        int ownedCells() {
            return Long.bitCount(owned);
        }

        void move(int direction) {
            x = nextX(direction);
            y = nextY(direction);
            steps++;
        }

        int nextX(int direction) {
            return direction == EAST ? x + 1 : direction == WEST ? x - 1 : x;
        }

        int nextY(int direction) {
            return direction == SOUTH ? y + 1 : direction == NORTH ? y - 1 : y;
        }
    }

    /** All that undo() restores. */
    private static final class Pond {
        long ice;
        /** The cells whose northern line is cut. */
        long cutNorth;
        /** The cells whose western line is cut. */
        long cutWest;
        final int[] wear;
        final int[] settings;
        final Skater[] skaters;
        int crackedLines;
        int thaws;
        int meltedCells;
        int filled;

        Pond() {
            ice = ALL_CELLS;
            cutNorth = NO_CELLS;
            cutWest = NO_CELLS;
            wear = new int[LINES];
            settings = new int[] {2, 3, 2};
            skaters = new Skater[] {new Skater(0, 0), new Skater(SIDE, 0), new Skater(0, SIDE)};
            crackedLines = 0;
            thaws = 0;
            meltedCells = 0;
            filled = SKATERS * FIRST_PURSE;
        }

        void copyFrom(Pond other) {
            ice = other.ice;
            cutNorth = other.cutNorth;
            cutWest = other.cutWest;
            System.arraycopy(other.wear, 0, wear, 0, LINES);
            System.arraycopy(other.settings, 0, settings, 0, SETTINGS);
            for (int skater = 0; skater < SKATERS; skater++) {
                skaters[skater].copyFrom(other.skaters[skater]);
            }
            crackedLines = other.crackedLines;
            thaws = other.thaws;
            meltedCells = other.meltedCells;
            filled = other.filled;
        }

        // ---- gliding

        /** Returns how many steps are made. */
        int makeSteps(int skater, int direction, int steps) {
            int made = 0;
            while (made < steps && reasonAgainst(skater, direction) == CAN_STEP) {
                makeStep(skater, direction);
                made++;
            }
            return made;
        }

        int reasonAgainst(int skater, int direction) {
            Skater mover = skaters[skater];
            int line = Lines.leading(mover.x, mover.y, direction);
            if (line == NONE) {
                return NO_POINT;
            }
            if (isTaken(mover.nextX(direction), mover.nextY(direction))) {
                return POINT_TAKEN;
            }
            long cells = Lines.cellsAt(line);
            if ((cells & ice) == NO_CELLS) {
                return NO_ICE;
            }
            boolean tolled = tollTaker(skater, cells) != NONE;
            return tolled && mover.purse < settings[TOLL] ? PURSE_TOO_LOW : CAN_STEP;
        }

        /** Makes a step against which there is no reason. */
        void makeStep(int skater, int direction) {
            Skater mover = skaters[skater];
            int line = Lines.leading(mover.x, mover.y, direction);
            if (line == NONE) {
                return;
            }
            long iceCells = Lines.cellsAt(line) & ice;
            payToll(mover, tollTaker(skater, iceCells));
            mover.move(direction);
            wear[line]++;
            if (wear[line] > settings[BEARABLE_WEAR]) {
                crackedLines++;
                makeWater(iceCells);
            } else if (Long.bitCount(iceCells) == 2 && !isCut(line)) {
                cutLine(line);
                partRink(mover, line);
            }
        }

        private boolean isTaken(int x, int y) {
            for (int skater = 0; skater < SKATERS; skater++) {
                if (skaters[skater].x == x && skaters[skater].y == y) {
                    return true;
                }
            }
            return false;
        }

        /** Who else owns both cells beside a line, and so gets a toll; NONE if nobody does. */
        private int tollTaker(int skater, long cells) {
            if (Long.bitCount(cells) != 2) {
                return NONE;
            }
            for (int other = 0; other < SKATERS; other++) {
                if (other != skater && (skaters[other].owned & cells) == cells) {
                    return other;
                }
            }
            return NONE;
        }

        private void payToll(Skater mover, int taker) {
            if (taker == NONE) {
                return;
            }
            int toll = settings[TOLL];
            mover.purse -= toll;
            mover.tollsPaid += toll;
            skaters[taker].purse += toll;
            skaters[taker].tollsGot += toll;
        }

        boolean isCut(int line) {
            long cuts = Lines.leadsEast(line) ? cutNorth : cutWest;
            return (cuts & Lines.higherCell(line)) != NO_CELLS;
        }

        private void cutLine(int line) {
            if (Lines.leadsEast(line)) {
                cutNorth |= Lines.higherCell(line);
            } else {
                cutWest |= Lines.higherCell(line);
            }
        }

        /** Gives the skater the smaller part, if the cut of the line parts a rink of nobody. */
        private void partRink(Skater mover, int line) {
            long lower = Lines.lowerCell(line);
            long higher = Lines.higherCell(line);
            long one = rinkOf(lower);
            if ((one & higher) != NO_CELLS || ownerOf(lower) != NONE) {
                return;
            }
            long other = rinkOf(higher);
            int more = Long.bitCount(one) - Long.bitCount(other);
            boolean oneIsClaimed = more < 0 || (more == 0 && lowestOf(one) < lowestOf(other));
            mover.owned |= oneIsClaimed ? one : other;
        }

        // ---- ice and water

        boolean isIce(long bit) {
            return (ice & bit) != NO_CELLS;
        }

        int iceCells() {
            return Long.bitCount(ice);
        }

        /** Makes ice cells water. */
        void makeWater(long cells) {
            ice &= ~cells;
            for (int skater = 0; skater < SKATERS; skater++) {
                skaters[skater].owned &= ~cells;
            }
            meltedCells += Long.bitCount(cells);
        }

        /** Returns how many cells become water. */
        int thawOnce() {
            long thawing = thawingCells(ice, settings[WATER_FOR_THAW]);
            makeWater(thawing);
            thaws++;
            return Long.bitCount(thawing);
        }

        int thawsUntilCalm() {
            long left = ice;
            for (int behind = 0; behind < CELLS; behind++) {
                long thawing = thawingCells(left, settings[WATER_FOR_THAW]);
                if (thawing == NO_CELLS) {
                    return behind;
                }
                left &= ~thawing;
            }
            return CELLS;
        }

        /** NONE if the cell never becomes water. */
        int thawsUntilWater(long bit) {
            long left = ice;
            for (int behind = 0; behind <= CELLS; behind++) {
                if ((left & bit) == NO_CELLS) {
                    return behind;
                }
                long thawing = thawingCells(left, settings[WATER_FOR_THAW]);
                if (thawing == NO_CELLS) {
                    return NONE;
                }
                left &= ~thawing;
            }
            return NONE;
        }

        // ---- rinks

        /** The cells of the rink of a cell; empty if the cell is water. */
        long rinkOf(long bit) {
            long openNorth = ice & southOf(ice) & ~cutNorth;
            long openWest = ice & eastOf(ice) & ~cutWest;
            long rink = bit & ice;
            for (int rounds = 0; rounds < CELLS; rounds++) {
                long wider = rink | northOf(rink & openNorth) | (southOf(rink) & openNorth)
                        | westOf(rink & openWest) | (eastOf(rink) & openWest);
                if (wider == rink) {
                    return rink;
                }
                rink = wider;
            }
            return rink;
        }

        /** The cells of the rink with a rank; empty if there are not so many. */
        long rinkWithRank(int rank) {
            long rest = ice;
            for (int before = 0; before < CELLS && rest != NO_CELLS; before++) {
                long rink = rinkOf(lowestBit(rest));
                if (before == rank) {
                    return rink;
                }
                rest &= ~rink;
            }
            return NO_CELLS;
        }

        int rinksByGoing() {
            return rinksWithin(ice);
        }

        int rinksOwned() {
            return rinksWithin(ownedByAny());
        }

        int rinksOwnedBy(int skater) {
            return rinksWithin(skaters[skater].owned);
        }

        /** How many rinks a set of whole rinks has. */
        private int rinksWithin(long cells) {
            int rinks = 0;
            long rest = cells;
            for (int round = 0; round < CELLS && rest != NO_CELLS; round++) {
                rest &= ~rinkOf(lowestBit(rest));
                rinks++;
            }
            return rinks;
        }

        /** The cells of the rinks whose lowest cell a skater owns. */
        int cellsOfRinks(int skater) {
            int cells = 0;
            long rest = ice;
            for (int round = 0; round < CELLS && rest != NO_CELLS; round++) {
                long lowest = lowestBit(rest);
                long rink = rinkOf(lowest);
                if (ownerOf(lowest) == skater) {
                    cells += Long.bitCount(rink);
                }
                rest &= ~rink;
            }
            return cells;
        }

        int greatestRink() {
            int most = 0;
            long rest = ice;
            for (int round = 0; round < CELLS && rest != NO_CELLS; round++) {
                long rink = rinkOf(lowestBit(rest));
                most = Math.max(most, Long.bitCount(rink));
                rest &= ~rink;
            }
            return most;
        }

        // ---- owners

        int ownerOf(long bit) {
            for (int skater = 0; skater < SKATERS; skater++) {
                if ((skaters[skater].owned & bit) != NO_CELLS) {
                    return skater;
                }
            }
            return NONE;
        }

        int ownedCells() {
            return Long.bitCount(ownedByAny());
        }

        private long ownedByAny() {
            long owned = NO_CELLS;
            for (int skater = 0; skater < SKATERS; skater++) {
                owned |= skaters[skater].owned;
            }
            return owned;
        }

        int allPurses() {
            int sum = 0;
            for (int skater = 0; skater < SKATERS; skater++) {
                sum += skaters[skater].purse;
            }
            return sum;
        }
    }

    /** Counts rinks by joining: each ice cell leads, over lower ones, to the lowest of its rink. */
    private static final class RinkJoiner {
        private final int[] lower;

        RinkJoiner() {
            lower = new int[CELLS];
        }

        int rinksByJoining(Pond pond) {
            for (int cell = 0; cell < CELLS; cell++) {
                lower[cell] = cell;
            }
            int rinks = pond.iceCells();
            for (int line = 0; line < LINES; line++) {
                long cells = Lines.cellsAt(line) & pond.ice;
                if (Long.bitCount(cells) == 2 && !pond.isCut(line) && join(cells)) {
                    rinks--;
                }
            }
            return rinks;
        }

        /** Makes the rinks of two cells one; returns whether they were two. */
        private boolean join(long twoCells) {
            int one = lowestJoined(lowestOf(twoCells));
            int other = lowestJoined(lowestOf(twoCells & ~lowestBit(twoCells)));
            lower[Math.max(one, other)] = Math.min(one, other);
            return one != other;
        }

        private int lowestJoined(int cell) {
            int lowest = cell;
            for (int hops = 0; hops < CELLS && lower[lowest] != lowest; hops++) {
                lowest = lower[lowest];
            }
            return lowest;
        }
    }

    /** The latest saved states; their ponds are made once and written over. */
    private static final class SavedPonds {
        private static final int MOST_SAVED = 6;

        private final Pond[] ponds;
        /** The place of the oldest one. */
        private int oldest;
        int size;

        SavedPonds() {
            ponds = new Pond[MOST_SAVED];
            for (int place = 0; place < MOST_SAVED; place++) {
                ponds[place] = new Pond();
            }
            oldest = 0;
            size = 0;
        }

        void push(Pond pond) {
            if (size == MOST_SAVED) {
                oldest = (oldest + 1) % MOST_SAVED;
                size--;
            }
            ponds[(oldest + size) % MOST_SAVED].copyFrom(pond);
            size++;
        }

        /** Takes the latest one; there is one. */
        void popInto(Pond pond) {
            size--;
            pond.copyFrom(ponds[(oldest + size) % MOST_SAVED]);
        }
    }

    /** The buffer, read from left to right: what may follow tells the reader's place in a part. */
    private static final class GlideText {
        static final int LEAST_CODE = 33;
        static final int MOST_CODE = 126;
        private static final int MOST_LENGTH = 60;

        private static final int BEFORE_PART = 0;
        private static final int BEFORE_DIRECTION = 1;
        private static final int BEFORE_STEPS = 2;
        private static final int BEHIND_PART = 3;
        private static final int ERROR = 4;

        final int[] codes;
        int length;

        GlideText() {
            codes = new int[MOST_LENGTH];
            length = 0;
        }

        boolean isFull() {
            return length >= MOST_LENGTH;
        }

        /** Adds a code to a buffer that is not full. */
        void add(int code) {
            codes[length] = code;
            length++;
        }

        int errorIndex() {
            int place = BEFORE_PART;
            for (int index = 0; index < length; index++) {
                place = placeBehind(place, codes[index]);
                if (place == ERROR) {
                    return index;
                }
            }
            return length;
        }

        boolean isComplete() {
            int place = BEFORE_PART;
            for (int index = 0; index < length; index++) {
                place = placeBehind(place, codes[index]);
            }
            return place == BEHIND_PART;
        }

        /** Plays a complete text; returns how many steps are made. */
        int playOn(Pond pond) {
            int place = BEFORE_PART;
            int skater = 0;
            int direction = NORTH;
            int all = 0;
            for (int index = 0; index < length; index++) {
                int code = codes[index];
                if (place == BEFORE_PART && code == 't') {
                    pond.thawOnce();
                } else if (place == BEFORE_PART) {
                    skater = code - '0';
                } else if (place == BEFORE_DIRECTION) {
                    direction = directionOf(code);
                } else if (place == BEFORE_STEPS) {
                    int made = pond.makeSteps(skater, direction, code - '0');
                    all += made;
                    if (made < code - '0') {
                        return all;
                    }
                }
                place = placeBehind(place, code);
            }
            return all;
        }

        private static int placeBehind(int place, int code) {
            switch (place) {
                case BEFORE_PART:
                    if (code == 't') {
                        return BEHIND_PART;
                    }
                    return code >= '0' && code <= '2' ? BEFORE_DIRECTION : ERROR;
                case BEFORE_DIRECTION:
                    return directionOf(code) == NONE ? ERROR : BEFORE_STEPS;
                case BEFORE_STEPS:
                    return code >= '1' && code <= '8' ? BEHIND_PART : ERROR;
                case BEHIND_PART:
                    return code == ';' ? BEFORE_PART : ERROR;
                default:
                    return ERROR;
            }
        }

        private static int directionOf(int code) {
            switch (code) {
                case 'n':
                    return NORTH;
                case 'e':
                    return EAST;
                case 's':
                    return SOUTH;
                case 'w':
                    return WEST;
                default:
                    return NONE;
            }
        }
    }
}
