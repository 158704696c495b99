import java.util.ArrayList;
import java.util.Arrays;
import java.util.List;
import java.util.TreeMap;

/**
 * The document once more, written for comparing: grids in place of sets of bits, a new state for
 * each saved one, and every question answered by going over everything.
 */
final class PlainRinks {
    private static final int WATER = -2;
    private static final int NOBODY = -1;
    private static final int[] DX = {0, 1, 0, -1};
    private static final int[] DY = {-1, 0, 1, 0};

    /** What the calls so far have met; the runs use it to see that they reach the rare cases. */
    final TreeMap<String, Integer> met = new TreeMap<>();

    private State state = new State();
    private State snapshot;
    private final List<State> saved = new ArrayList<>();
    private String buffer = "";

    private static final class State {
        int[][] owner = new int[8][8];
        int[][] southWear = new int[9][9];
        int[][] eastWear = new int[9][9];
        boolean[][] southCut = new boolean[9][9];
        boolean[][] eastCut = new boolean[9][9];
        int[] x = {0, 8, 0};
        int[] y = {0, 0, 8};
        int[] purse = {20, 20, 20};
        int[] steps = new int[3];
        int[] paid = new int[3];
        int[] got = new int[3];
        int[] settings = {2, 3, 2};
        int cracked;
        int thaws;
        int melted;
        int filled = 60;

        State() {
            for (int[] row : owner) {
                Arrays.fill(row, NOBODY);
            }
        }

        State copy() {
            State copy = new State();
            for (int i = 0; i < 9; i++) {
                if (i < 8) {
                    copy.owner[i] = owner[i].clone();
                }
                copy.southWear[i] = southWear[i].clone();
                copy.eastWear[i] = eastWear[i].clone();
                copy.southCut[i] = southCut[i].clone();
                copy.eastCut[i] = eastCut[i].clone();
            }
            copy.x = x.clone();
            copy.y = y.clone();
            copy.purse = purse.clone();
            copy.steps = steps.clone();
            copy.paid = paid.clone();
            copy.got = got.clone();
            copy.settings = settings.clone();
            copy.cracked = cracked;
            copy.thaws = thaws;
            copy.melted = melted;
            copy.filled = filled;
            return copy;
        }

        boolean ice(int cx, int cy) {
            return cx >= 0 && cx < 8 && cy >= 0 && cy < 8 && owner[cy][cx] != WATER;
        }

        /** The cells beside a line that stand in the pond, each as 8 y and x. */
        List<Integer> beside(int px, int py, boolean east) {
            List<Integer> cells = new ArrayList<>();
            int ox = east ? px : px - 1;
            int oy = east ? py - 1 : py;
            if (ox >= 0 && oy >= 0) {
                cells.add(8 * oy + ox);
            }
            if (px < 8 && py < 8) {
                cells.add(8 * py + px);
            }
            return cells;
        }

        int ownerOf(int cell) {
            return owner[cell / 8][cell % 8];
        }

        List<Integer> iceOf(List<Integer> cells) {
            List<Integer> ice = new ArrayList<>();
            for (int cell : cells) {
                if (ownerOf(cell) != WATER) {
                    ice.add(cell);
                }
            }
            return ice;
        }

        boolean open(int cx, int cy, int direction) {
            if (!ice(cx, cy) || !ice(cx + DX[direction], cy + DY[direction])) {
                return false;
            }
            switch (direction) {
                case 0:
                    return !eastCut[cy][cx];
                case 1:
                    return !southCut[cy][cx + 1];
                case 2:
                    return !eastCut[cy + 1][cx];
                default:
                    return !southCut[cy][cx];
            }
        }

        /** For each cell the lowest cell of its rink, NONE for water. */
        int[] rinks() {
            int[] lowest = new int[64];
            Arrays.fill(lowest, -1);
            for (int cell = 0; cell < 64; cell++) {
                if (lowest[cell] < 0 && ownerOf(cell) != WATER) {
                    spread(cell % 8, cell / 8, cell, lowest);
                }
            }
            return lowest;
        }

        void spread(int cx, int cy, int mark, int[] lowest) {
            lowest[8 * cy + cx] = mark;
            for (int direction = 0; direction < 4; direction++) {
                int nx = cx + DX[direction];
                int ny = cy + DY[direction];
                if (open(cx, cy, direction) && lowest[8 * ny + nx] < 0) {
                    spread(nx, ny, mark, lowest);
                }
            }
        }

        int waterBeside(int cx, int cy) {
            int water = 0;
            for (int direction = 0; direction < 4; direction++) {
                int nx = cx + DX[direction];
                int ny = cy + DY[direction];
                if (nx >= 0 && nx < 8 && ny >= 0 && ny < 8 && !ice(nx, ny)) {
                    water++;
                }
            }
            return water;
        }

        void toWater(int cell) {
            owner[cell / 8][cell % 8] = WATER;
            melted++;
        }

        int thaw() {
            List<Integer> thawing = new ArrayList<>();
            for (int cell = 0; cell < 64; cell++) {
                if (ice(cell % 8, cell / 8) && waterBeside(cell % 8, cell / 8) >= settings[2]) {
                    thawing.add(cell);
                }
            }
            for (int cell : thawing) {
                toWater(cell);
            }
            thaws++;
            return thawing.size();
        }

        int why(int who, int direction) {
            int tx = x[who] + DX[direction];
            int ty = y[who] + DY[direction];
            if (tx < 0 || tx > 8 || ty < 0 || ty > 8) {
                return 1;
            }
            for (int other = 0; other < 3; other++) {
                if (other != who && x[other] == tx && y[other] == ty) {
                    return 2;
                }
            }
            boolean east = direction == 1 || direction == 3;
            int px = Math.min(x[who], tx);
            int py = Math.min(y[who], ty);
            if (iceOf(beside(px, py, east)).isEmpty()) {
                return 3;
            }
            int taker = taker(who, px, py, east);
            return taker >= 0 && purse[who] < settings[0] ? 4 : 0;
        }

        int taker(int who, int px, int py, boolean east) {
            List<Integer> ice = iceOf(beside(px, py, east));
            if (ice.size() < 2 || ownerOf(ice.get(0)) != ownerOf(ice.get(1))) {
                return -1;
            }
            int owner = ownerOf(ice.get(0));
            return owner == who ? -1 : owner;
        }

        int glide(int who, int direction, int most, TreeMap<String, Integer> met) {
            int made = 0;
            while (made < most && why(who, direction) == 0) {
                step(who, direction, met);
                made++;
            }
            if (made < most) {
                meet(met, "stopped for reason " + why(who, direction));
            }
            return made;
        }

        void step(int who, int direction, TreeMap<String, Integer> met) {
            boolean east = direction == 1 || direction == 3;
            int px = Math.min(x[who], x[who] + DX[direction]);
            int py = Math.min(y[who], y[who] + DY[direction]);
            int taker = taker(who, px, py, east);
            if (taker >= 0) {
                meet(met, "toll");
                purse[who] -= settings[0];
                paid[who] += settings[0];
                purse[taker] += settings[0];
                got[taker] += settings[0];
            }
            x[who] += DX[direction];
            y[who] += DY[direction];
            steps[who]++;
            int[][] wear = east ? eastWear : southWear;
            boolean[][] cut = east ? eastCut : southCut;
            wear[py][px]++;
            List<Integer> ice = iceOf(beside(px, py, east));
            if (wear[py][px] > settings[1]) {
                meet(met, "crack of " + ice.size() + (cut[py][px] ? " cut" : " uncut"));
                cracked++;
                for (int cell : ice) {
                    toWater(cell);
                }
            } else if (ice.size() == 2 && !cut[py][px]) {
                cut[py][px] = true;
                parted(who, ice.get(0), ice.get(1), met);
            }
        }

        void parted(int who, int one, int other, TreeMap<String, Integer> met) {
            int[] lowest = rinks();
            if (lowest[one] == lowest[other]) {
                return;
            }
            if (ownerOf(one) != NOBODY) {
                meet(met, "owned rink parted" + (ownerOf(one) == who ? " by its owner" : ""));
                return;
            }
            int ones = 0;
            int others = 0;
            for (int mark : lowest) {
                ones += mark == lowest[one] ? 1 : 0;
                others += mark == lowest[other] ? 1 : 0;
            }
            int claimed = ones < others ? lowest[one] : lowest[other];
            if (ones == others) {
                claimed = Math.min(lowest[one], lowest[other]);
            }
            meet(met, ones == others ? "like parts" : "unlike parts");
            for (int cell = 0; cell < 64; cell++) {
                if (lowest[cell] == claimed) {
                    owner[cell / 8][cell % 8] = who;
                }
            }
        }

        int owned(int who) {
            int cells = 0;
            for (int cell = 0; cell < 64; cell++) {
                cells += ownerOf(cell) == who ? 1 : 0;
            }
            return cells;
        }

        int ice() {
            return 64 - owned(WATER);
        }

        /** The lowest cells of the rinks, in order. */
        List<Integer> rinkList() {
            int[] lowest = rinks();
            List<Integer> list = new ArrayList<>();
            for (int cell = 0; cell < 64; cell++) {
                if (lowest[cell] == cell) {
                    list.add(cell);
                }
            }
            return list;
        }

        int sizeOfRink(int mark) {
            int size = 0;
            for (int lowest : rinks()) {
                size += lowest == mark ? 1 : 0;
            }
            return size;
        }
    }

    private static void meet(TreeMap<String, Integer> met, String what) {
        if (met != null) {
            met.merge(what, 1, Integer::sum);
        }
    }

    private static void index(boolean good) {
        if (!good) {
            throw new IndexOutOfBoundsException();
        }
    }

    private static void argument(boolean good) {
        if (!good) {
            throw new IllegalArgumentException();
        }
    }

    private static void state(boolean good) {
        if (!good) {
            throw new IllegalStateException();
        }
    }

    private static boolean in(int value, int least, int most) {
        return least <= value && value <= most;
    }

    private void save() {
        saved.add(state.copy());
        if (saved.size() > 6) {
            saved.remove(0);
        }
    }

    int glide(int skater, int direction, int steps) {
        index(in(skater, 0, 2));
        argument(in(direction, 0, 3) && in(steps, 1, 8));
        save();
        return state.glide(skater, direction, steps, met);
    }

    int thaw() {
        save();
        int thawed = state.thaw();
        meet(met, thawed > 0 ? "thaw" : "thaw of nothing");
        return thawed;
    }

    int hole(int x, int y) {
        index(in(x, 0, 7) && in(y, 0, 7));
        state(state.ice(x, y));
        save();
        int owner = state.owner[y][x];
        state.toWater(8 * y + x);
        return owner;
    }

    int pay(int skater, int coins) {
        index(in(skater, 0, 2));
        argument(in(coins, 1, 99));
        if (state.filled + coins > 9999) {
            meet(met, "too much filled");
        }
        state(state.filled + coins <= 9999);
        save();
        state.filled += coins;
        state.purse[skater] += coins;
        return state.purse[skater];
    }

    int set(int setting, int value) {
        index(in(setting, 0, 2));
        argument(setting == 0 ? in(value, 0, 9) : in(value, 1, setting == 1 ? 9 : 4));
        save();
        int previous = state.settings[setting];
        state.settings[setting] = value;
        return previous;
    }

    int append(int code) {
        argument(in(code, 33, 126));
        if (buffer.length() == 60) {
            meet(met, "full buffer");
        }
        state(buffer.length() < 60);
        buffer += (char) code;
        return buffer.length();
    }

    int clearBuffer() {
        int length = buffer.length();
        buffer = "";
        return length;
    }

    private static boolean complete(String text) {
        return text.matches("([0-2][nesw][1-8]|t)(;([0-2][nesw][1-8]|t))*");
    }

    int firstError() {
        for (int length = 1; length <= buffer.length(); length++) {
            String start = buffer.substring(0, length);
            boolean begins = complete(start) || complete(start + "1") || complete(start + "n1")
                    || complete(start + "0n1");
            if (!begins) {
                return length - 1;
            }
        }
        return buffer.length();
    }

    int play() {
        argument(complete(buffer));
        save();
        int all = 0;
        for (String part : buffer.split(";")) {
            if (part.equals("t")) {
                state.thaw();
                continue;
            }
            int steps = part.charAt(2) - '0';
            int made = state.glide(part.charAt(0) - '0', "nesw".indexOf(part.charAt(1)), steps, met);
            all += made;
            if (made < steps) {
                meet(met, "play ended early");
                break;
            }
        }
        meet(met, "play");
        buffer = "";
        return all;
    }

    int keep() {
        snapshot = state.copy();
        return state.ice();
    }

    int goBack() {
        state(snapshot != null);
        save();
        state = snapshot.copy();
        return state.ice();
    }

    int undo() {
        state(!saved.isEmpty());
        state = saved.remove(saved.size() - 1);
        return saved.size();
    }

    int cell(int x, int y, int what) {
        index(in(x, 0, 7) && in(y, 0, 7));
        argument(in(what, 0, 5));
        boolean ice = state.ice(x, y);
        int mark = state.rinks()[8 * y + x];
        int[] numbers = {
            ice ? 1 : 0,
            ice ? state.owner[y][x] : -1,
            mark,
            ice ? state.sizeOfRink(mark) : 0,
            state.waterBeside(x, y),
            what == 5 ? thawsUntilWater(x, y) : 0,
        };
        return numbers[what];
    }

    private int thawsUntilWater(int x, int y) {
        State copy = state.copy();
        int thaws = 0;
        while (copy.ice(x, y)) {
            if (copy.thaw() == 0) {
                return -1;
            }
            thaws++;
        }
        return thaws;
    }

    int line(int x, int y, int direction, int what) {
        index(in(x, 0, 8) && in(y, 0, 8));
        index(!(direction == 1 && x == 8) && !(direction == 2 && y == 8));
        argument(in(direction, 1, 2) && in(what, 0, 2));
        boolean east = direction == 1;
        int wear = (east ? state.eastWear : state.southWear)[y][x];
        boolean cut = (east ? state.eastCut : state.southCut)[y][x];
        return what == 0 ? wear : what == 1 ? (cut ? 1 : 0) : state.iceOf(state.beside(x, y, east)).size();
    }

    int skater(int skater, int what) {
        index(in(skater, 0, 2));
        argument(in(what, 0, 8));
        int rinks = 0;
        for (int mark : state.rinkList()) {
            rinks += state.ownerOf(mark) == skater ? 1 : 0;
        }
        int cells = state.owned(skater);
        int[] numbers = {state.x[skater], state.y[skater], state.purse[skater], cells, cells, rinks,
            state.steps[skater], state.paid[skater], state.got[skater]};
        return numbers[what];
    }

    int rink(int rank, int what) {
        index(rank >= 0);
        argument(in(what, 0, 2));
        List<Integer> rinks = state.rinkList();
        if (rank >= rinks.size()) {
            return -1;
        }
        int mark = rinks.get(rank);
        return what == 0 ? mark : what == 1 ? state.sizeOfRink(mark) : state.ownerOf(mark);
    }

    int count(int what) {
        argument(in(what, 0, 11));
        List<Integer> rinks = state.rinkList();
        int owned = 0;
        int greatest = 0;
        for (int mark : rinks) {
            owned += state.ownerOf(mark) >= 0 ? 1 : 0;
            greatest = Math.max(greatest, state.sizeOfRink(mark));
        }
        int cuts = 0;
        for (int y = 0; y < 9; y++) {
            for (int x = 0; x < 9; x++) {
                cuts += (state.eastCut[y][x] ? 1 : 0) + (state.southCut[y][x] ? 1 : 0);
            }
        }
        int purses = state.purse[0] + state.purse[1] + state.purse[2];
        int[] numbers = {state.ice(), rinks.size(), rinks.size(), owned, cuts, state.cracked,
            state.thaws, state.melted, purses, state.filled, greatest, saved.size()};
        return numbers[what];
    }

    int setting(int setting) {
        index(in(setting, 0, 2));
        return state.settings[setting];
    }

    int why(int skater, int direction) {
        index(in(skater, 0, 2));
        argument(in(direction, 0, 3));
        return state.why(skater, direction);
    }

    int ifGlided(int skater, int direction, int steps, int what) {
        index(in(skater, 0, 2));
        argument(in(direction, 0, 3) && in(steps, 1, 8) && in(what, 0, 3));
        State copy = state.copy();
        int made = copy.glide(skater, direction, steps, null);
        int[] numbers = {made, copy.owned(skater) - state.owned(skater),
            copy.paid[skater] - state.paid[skater], copy.rinkList().size()};
        return numbers[what];
    }

    int best(int skater) {
        index(in(skater, 0, 2));
        int found = -1;
        int most = 0;
        for (int direction = 0; direction < 4; direction++) {
            for (int steps = 1; steps <= 8; steps++) {
                State copy = state.copy();
                if (copy.glide(skater, direction, steps, null) < steps) {
                    continue;
                }
                int more = copy.owned(skater) - state.owned(skater);
                if (found == -1 || more > most) {
                    found = 10 * direction + steps;
                    most = more;
                }
            }
        }
        String gain = most < 0 ? "best is a loss" : most > 0 ? "best gains" : "best";
        meet(met, found == -1 ? "best of none" : gain);
        return found;
    }

    int calm() {
        State copy = state.copy();
        int thaws = 0;
        while (copy.thaw() > 0) {
            thaws++;
        }
        if (thaws > 1) {
            meet(met, "calm behind several thaws");
        }
        return thaws;
    }

    double ownedShare() {
        int ice = state.ice();
        return ice == 0 ? 0.0 : (double) (state.owned(0) + state.owned(1) + state.owned(2)) / ice;
    }

    float meanRink() {
        int rinks = state.rinkList().size();
        if (rinks == 0) {
            meet(met, "no ice");
        }
        return rinks == 0 ? 0.0f : (float) state.ice() / rinks;
    }

    long digest() {
        List<Long> values = new ArrayList<>();
        for (int what = 0; what <= 11; what++) {
            values.add((long) count(what));
        }
        for (int setting = 0; setting <= 2; setting++) {
            values.add((long) setting(setting));
        }
        for (int cell = 0; cell < 64; cell++) {
            for (int what = 0; what <= 5; what++) {
                values.add((long) cell(cell % 8, cell / 8, what));
            }
        }
        for (int y = 0; y <= 8; y++) {
            for (int x = 0; x <= 8; x++) {
                for (int what = 0; what <= 2 && x < 8; what++) {
                    values.add((long) line(x, y, 1, what));
                }
                for (int what = 0; what <= 2 && y < 8; what++) {
                    values.add((long) line(x, y, 2, what));
                }
            }
        }
        for (int skater = 0; skater <= 2; skater++) {
            for (int what = 0; what <= 8; what++) {
                values.add((long) skater(skater, what));
            }
            for (int direction = 0; direction <= 3; direction++) {
                values.add((long) why(skater, direction));
            }
            values.add((long) best(skater));
        }
        for (int rank = 0; rank < count(1); rank++) {
            for (int what = 0; what <= 2; what++) {
                values.add((long) rink(rank, what));
            }
        }
        values.add((long) calm());
        values.add(Double.doubleToLongBits(ownedShare()));
        values.add((long) Float.floatToIntBits(meanRink()));
        values.add(snapshot != null ? 1L : 0L);
        values.add((long) buffer.length());
        for (int index = 0; index < buffer.length(); index++) {
            values.add((long) buffer.charAt(index));
        }
        long hash = 3727;
        for (long value : values) {
            hash = 31 * hash + value;
        }
        return hash;
    }
}
