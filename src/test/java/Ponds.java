/** Ponds in states that the tests begin with, and what tells two ponds apart. */
final class Ponds {
    static final int NONE = CarvedRinks.NONE;
    static final int NORTH = 0;
    static final int EAST = 1;
    static final int SOUTH = 2;
    static final int WEST = 3;
    static final int LEAST = Integer.MIN_VALUE;
    static final int MOST = Integer.MAX_VALUE;

    private Ponds() {
    }

    /** Numbers that are not in a range: the next ones, the utmost ones, ones that wrap into it. */
    static int[] beyond(int least, int most) {
        return new int[] {least - 1, most + 1, LEAST, MOST, LEAST + most, most - 256, least + 256,
            least + 65536, -1 - most};
    }

    static CarvedRinks written(String text) {
        CarvedRinks c = new CarvedRinks();
        write(c, text);
        return c;
    }

    static void write(CarvedRinks c, String text) {
        for (char sign : text.toCharArray()) {
            c.append(sign);
        }
    }

    /** Skater 0 cuts the pond into two halves and owns the western one; it ends at (4, 8). */
    static CarvedRinks halved() {
        CarvedRinks c = new CarvedRinks();
        c.glide(0, EAST, 4);
        c.glide(0, SOUTH, 8);
        return c;
    }

    /** The halves, and the column of the cells (4, y) is a rink of skater 1, which ends at (5, 8). */
    static CarvedRinks columned() {
        CarvedRinks c = halved();
        c.glide(1, WEST, 3);
        c.glide(1, SOUTH, 8);
        return c;
    }

    /** The cells (0, 0), (1, 0), (0, 1), (1, 1) are a rink of skater 0, which stands at (0, 2). */
    static CarvedRinks cornered() {
        CarvedRinks c = new CarvedRinks();
        c.glide(0, EAST, 2);
        c.glide(0, SOUTH, 2);
        c.glide(0, WEST, 2);
        return c;
    }

    /** All 112 lines between two cells are cut, each cell but 57 is a rink of skater 0; 30 calls. */
    static CarvedRinks carved() {
        CarvedRinks c = new CarvedRinks();
        c.set(0, 0);
        for (int row = 1; row <= 7; row++) {
            c.glide(0, SOUTH, 1);
            c.glide(0, row % 2 == 1 ? EAST : WEST, 8);
        }
        c.glide(0, SOUTH, 1);
        for (int column = 7; column >= 1; column--) {
            c.glide(0, WEST, 1);
            c.glide(0, column % 2 == 1 ? NORTH : SOUTH, 8);
        }
        return c;
    }

    /** Only some cells, told by their numbers, are ice. */
    static CarvedRinks onlyIce(int... cells) {
        CarvedRinks c = new CarvedRinks();
        leave(c, cells);
        return c;
    }

    /** Makes all cells of a pond without water water, but for some. */
    static void leave(CarvedRinks c, int... cells) {
        for (int cell = 0; cell < 64; cell++) {
            if (!isAmong(cell, cells)) {
                c.hole(cell % 8, cell / 8);
            }
        }
    }

    private static boolean isAmong(int cell, int[] cells) {
        for (int one : cells) {
            if (one == cell) {
                return true;
            }
        }
        return false;
    }

    static void holes(CarvedRinks c, int... cells) {
        for (int cell : cells) {
            c.hole(cell % 8, cell / 8);
        }
    }

    /** Makes all ice that is left water. */
    static void melt(CarvedRinks c) {
        for (int cell = 0; cell < 64; cell++) {
            if (c.cell(cell % 8, cell / 8, 0) == 1) {
                c.hole(cell % 8, cell / 8);
            }
        }
    }

    /** Something of everything: rinks, a hole, tolls, a snapshot, 4 saved states, "0n" as buffer. */
    static CarvedRinks busy() {
        CarvedRinks c = columned();
        c.pay(2, 7);
        c.keep();
        c.hole(6, 6);
        c.glide(2, NORTH, 4);
        c.glide(2, EAST, 2);
        c.thaw();
        c.set(2, 1);
        c.undo();
        c.undo();
        write(c, "0n");
        return c;
    }

    /** All that a pond is, with what its saved states and its snapshot hold; uses the pond up. */
    static String traceOf(CarvedRinks c) {
        StringBuilder trace = new StringBuilder();
        trace.append(c.digest());
        for (int undone = 0; undone < 7; undone++) {
            trace.append(' ').append(Check.answerOf(c::undo)).append(' ').append(c.digest());
        }
        trace.append(' ').append(Check.answerOf(c::goBack)).append(' ').append(c.digest());
        return trace.toString();
    }
}
