/** The boundary cases that the document names of the pond, its rinks and what is told of them. */
public final class PondBoundariesTest {
    private static final Sentences SENTENCES = new Sentences();

    private static void due(String what, long due, long got) {
        SENTENCES.due(what, due, got);
    }

    private static boolean isEdge(int x, int y, int direction) {
        return direction == Ponds.EAST ? y == 0 || y == 8 : x == 0 || x == 8;
    }

    private static boolean isLine(int x, int y, int direction) {
        return direction == Ponds.EAST ? x < 8 : y < 8;
    }

    // ---- the pond

    private static void newPond() {
        new CarvedRinks().hole(3, 3);
        CarvedRinks c = new CarvedRinks();
        int[] numbers = {1, -1, 0, 64, 0, -1};
        for (int cell = 0; cell < 64; cell++) {
            for (int what = 0; what <= 5; what++) {
                due("cell " + cell + ", " + what, numbers[what], c.cell(cell % 8, cell / 8, what));
            }
        }
        due("the buffer", 0, c.clearBuffer());
        SENTENCES.dueText("no snapshot", "throws.IllegalStateException", Check.answerOf(c::goBack));
        SENTENCES.dueText("no saved state", "throws.IllegalStateException", Check.answerOf(c::undo));
        for (int what = 0; what <= 11; what++) {
            int[] counts = {64, 1, 1, 0, 0, 0, 0, 0, 60, 60, 64, 0};
            due("count " + what, counts[what], c.count(what));
        }
    }

    private static void newSkaters() {
        CarvedRinks c = new CarvedRinks();
        int[][] numbers = {{0, 0, 20, 0, 0, 0, 0, 0, 0}, {8, 0, 20, 0, 0, 0, 0, 0, 0}, {0, 8, 20, 0, 0, 0, 0, 0, 0}};
        for (int skater = 0; skater < 3; skater++) {
            for (int what = 0; what <= 8; what++) {
                due("skater " + skater + ", " + what, numbers[skater][what], c.skater(skater, what));
            }
        }
    }

    private static void newSettings() {
        CarvedRinks c = new CarvedRinks();
        due("0", 2, c.setting(0));
        due("1", 3, c.setting(1));
        due("2", 2, c.setting(2));
    }

    /** With one ice cell alone each number that tells of it is the one of its place. */
    private static void cellNumbers() {
        for (int cell = 0; cell < 64; cell++) {
            CarvedRinks c = Ponds.onlyIce(cell);
            int[] numbers = {1, -1, cell, 1};
            for (int what = 0; what <= 3; what++) {
                due("cell " + cell + " alone, " + what, numbers[what], c.cell(cell % 8, cell / 8, what));
            }
            due("rink 0 of cell " + cell + " alone", cell, c.rink(0, 0));
            due("cells of it", 1, c.rink(0, 1));
            due("rink 1", -1, c.rink(1, 0));
            int[] counts = {1, 1, 1, 0, 0, 0, 0, 63, 60, 60, 1, 6};
            for (int what = 0; what <= 11; what++) {
                due("count " + what + " with cell " + cell + " alone", counts[what], c.count(what));
            }
        }
    }

    private static void iceOrWater() {
        CarvedRinks c = new CarvedRinks();
        for (int cell = 0; cell < 64; cell++) {
            due("ice cells ahead of hole " + cell, 64 - cell, c.count(0));
            due("cell " + cell, 1, c.cell(cell % 8, cell / 8, 0));
            c.hole(cell % 8, cell / 8);
            due("cell " + cell + " then", 0, c.cell(cell % 8, cell / 8, 0));
        }
        due("no ice", 0, c.count(0));
    }

    private static void points() {
        for (int x = -1; x <= 9; x++) {
            CarvedRinks c = new CarvedRinks();
            for (int y = -1; y <= 9; y++) {
                int px = x;
                int py = y;
                boolean stands = x >= 0 && x <= 8 && y >= 0 && y <= 8;
                SENTENCES.dueText("point " + x + " " + y + ", no direction",
                        stands ? "throws.IllegalArgumentException" : "throws.IndexOutOfBoundsException",
                        Check.answerOf(() -> c.line(px, py, 0, 0)));
            }
        }
        CarvedRinks g = new CarvedRinks();
        due("to the last row", 8, g.glide(1, Ponds.SOUTH, 8));
        due("x there", 8, g.skater(1, 0));
        due("y there", 8, g.skater(1, 1));
    }

    private static void northWesternCorner() {
        for (int cell = 0; cell < 64; cell++) {
            CarvedRinks c = Ponds.onlyIce(cell);
            int cx = cell % 8;
            int cy = cell / 8;
            for (int x = 0; x <= 8; x++) {
                for (int y = 0; y <= 8; y++) {
                    if (x < 8) {
                        boolean beside = x == cx && (y == cy || y == cy + 1);
                        due("line " + x + " " + y + " east, ice of " + cell, beside ? 1 : 0, c.line(x, y, 1, 2));
                    }
                    if (y < 8) {
                        boolean beside = y == cy && (x == cx || x == cx + 1);
                        due("line " + x + " " + y + " south, ice of " + cell, beside ? 1 : 0, c.line(x, y, 2, 2));
                    }
                }
            }
        }
    }

    // ---- lines

    /** Each line of a pond with the numbers that are due for one at the edge and one within. */
    private static void dueLines(CarvedRinks c, int what, int atEdge, int within) {
        for (int point = 0; point < 81; point++) {
            for (int direction = 1; direction <= 2; direction++) {
                int x = point % 9;
                int y = point / 9;
                if (isLine(x, y, direction)) {
                    due("line " + x + " " + y + " " + direction + ", " + what,
                            isEdge(x, y, direction) ? atEdge : within, c.line(x, y, direction, what));
                }
            }
        }
    }

    private static void cellsBesideLines() {
        dueLines(new CarvedRinks(), 2, 1, 2);
        CarvedRinks c = new CarvedRinks();
        Ponds.melt(c);
        dueLines(c, 2, 0, 0);
    }

    private static void linesAtFirst() {
        dueLines(new CarvedRinks(), 1, 0, 0);
        dueLines(new CarvedRinks(), 0, 0, 0);
    }

    private static void edgeLinesAreNotCut() {
        CarvedRinks c = new CarvedRinks();
        due("the eastern edge", 8, c.glide(1, Ponds.SOUTH, 8));
        due("the northern edge", 8, c.glide(0, Ponds.EAST, 8));
        due("the western edge", 8, c.glide(2, Ponds.NORTH, 8));
        due("back", 8, c.glide(2, Ponds.SOUTH, 8));
        due("the southern edge", 7, c.glide(2, Ponds.EAST, 8));
        due("the rest of it", 0, c.glide(1, Ponds.WEST, 1));
        due("cut lines", 0, c.count(4));
        dueLines(c, 1, 0, 0);
        due("rinks", 1, c.count(1));
        due("worn, north", 1, c.line(7, 0, 1, 0));
        due("worn, east", 1, c.line(8, 7, 2, 0));
        due("worn, west", 2, c.line(0, 7, 2, 0));
        due("worn, south", 1, c.line(6, 8, 1, 0));
    }

    private static void innerLinesAreCut() {
        CarvedRinks c = Ponds.carved();
        due("cut lines", 112, c.count(4));
        dueLines(c, 1, 0, 1);
        dueLines(Ponds.carved(), 2, 1, 2);
        CarvedRinks w = Ponds.carved();
        due("worn", 1, w.line(7, 7, 1, 0));
        Ponds.melt(w);
        due("cut lines without ice", 112, w.count(4));
    }

    private static void noSuchLine() {
        for (int at = 0; at <= 8; at++) {
            int place = at;
            SENTENCES.refused("IndexOutOfBoundsException", "east of (8, " + at + ")", Ponds::busy,
                    c -> c.line(8, place, 1, 0));
            SENTENCES.refused("IndexOutOfBoundsException", "south of (" + at + ", 8)", Ponds::busy,
                    c -> c.line(place, 8, 2, 0));
        }
        CarvedRinks c = new CarvedRinks();
        due("the last one east", 1, c.line(7, 8, 1, 2));
        due("the last one south", 1, c.line(8, 7, 2, 2));
    }

    // ---- rinks

    private static void besideInRowsAndColumns() {
        for (int row = 0; row < 7; row++) {
            CarvedRinks c = Ponds.onlyIce(8 * row + 7, 8 * row + 8);
            due("the last of a row and the first of the next one", 2, c.count(1));
            due("the same by joining", 2, c.count(2));
            due("water beside the first", row == 6 ? 2 : 3, c.cell(0, row + 1, 4));
        }
        int[][] diagonals = {{0, 9}, {1, 8}, {54, 63}, {55, 62}, {27, 36}, {28, 35}};
        for (int[] pair : diagonals) {
            CarvedRinks c = Ponds.onlyIce(pair);
            due("diagonal: " + pair[0] + ", " + pair[1], 2, c.count(1));
            due("the same by joining", 2, c.count(2));
        }
        int[][] neighbours = {{0, 1}, {0, 8}, {62, 63}, {55, 63}, {27, 28}, {27, 35}};
        for (int[] pair : neighbours) {
            CarvedRinks c = Ponds.onlyIce(pair);
            due("beside: " + pair[0] + ", " + pair[1], 1, c.count(1));
            due("the same by joining", 1, c.count(2));
            due("two cells", 2, c.cell(pair[1] % 8, pair[1] / 8, 3));
        }
    }

    private static void noCutLineBetween() {
        CarvedRinks c = Ponds.halved();
        due("two halves", 2, c.count(1));
        due("the same by joining", 2, c.count(2));
        for (int row = 0; row < 8; row++) {
            due("west of the cut", 0, c.cell(3, row, 2));
            due("east of the cut", 4, c.cell(4, row, 2));
        }
        CarvedRinks r = new CarvedRinks();
        r.glide(0, Ponds.SOUTH, 5);
        r.glide(0, Ponds.EAST, 8);
        due("north of the cut", 0, r.cell(7, 4, 2));
        due("south of the cut", 40, r.cell(0, 5, 2));
        CarvedRinks b = new CarvedRinks();
        b.glide(0, Ponds.EAST, 4);
        b.glide(0, Ponds.SOUTH, 7);
        due("round the end of the cut", 1, b.count(1));
        due("the same by joining", 1, b.count(2));
        due("east of it", 0, b.cell(4, 0, 2));
    }

    /** The ice is a path of 39 cells, of which none is beside another one of the path but the next. */
    private static void andSoOn() {
        int[] path = {0, 1, 2, 3, 4, 5, 6, 7, 15, 23, 31, 39, 47, 55, 63, 62, 61, 60, 59, 58, 57, 56, 48, 40,
            32, 24, 16, 17, 18, 19, 20, 21, 29, 37, 45, 44, 43, 42, 34};
        CarvedRinks c = Ponds.onlyIce(path);
        due("rinks", 1, c.count(1));
        due("rinks by joining", 1, c.count(2));
        due("the greatest", 39, c.count(10));
        due("its inner end", 0, c.cell(2, 4, 2));
        due("its cells from the outer end", 39, c.cell(0, 0, 3));
        due("its cells from the inner end", 39, c.cell(2, 4, 3));
        c.hole(7, 7);
        due("parted", 2, c.count(1));
        due("parted by joining", 2, c.count(2));
        due("the inner part", 16, c.cell(2, 4, 2));
        due("its cells", 24, c.cell(2, 4, 3));
        due("the outer one", 14, c.rink(0, 1));
    }

    private static void toldByItsLowestCell() {
        CarvedRinks c = Ponds.onlyIce(5, 13, 12, 11, 19, 40, 41, 33);
        for (int cell : new int[] {5, 13, 12, 11, 19}) {
            due("cell " + cell, 5, c.cell(cell % 8, cell / 8, 2));
        }
        for (int cell : new int[] {40, 41, 33}) {
            due("cell " + cell, 33, c.cell(cell % 8, cell / 8, 2));
        }
        due("rank 0", 5, c.rink(0, 0));
        due("rank 1", 33, c.rink(1, 0));
    }

    private static void allCellsOwnedByTheSame() {
        CarvedRinks c = Ponds.columned();
        for (int cell = 0; cell < 64; cell++) {
            int owner = cell % 8 < 4 ? 0 : cell % 8 == 4 ? 1 : -1;
            due("cell " + cell, owner, c.cell(cell % 8, cell / 8, 1));
        }
        due("rink 0", 0, c.rink(0, 2));
        due("rink 1", 1, c.rink(1, 2));
        due("rink 2", -1, c.rink(2, 2));
    }

    // ---- what is told of cells, rinks and the pond

    private static void cellOfWater() {
        CarvedRinks c = Ponds.cornered();
        Ponds.holes(c, 0, 1, 63);
        int[][] numbers = {{0, -1, -1, 0, 1, 0}, {0, -1, -1, 0, 1, 0}, {0, -1, -1, 0, 0, 0}};
        int[] cells = {0, 1, 63};
        for (int at = 0; at < 3; at++) {
            for (int what = 0; what <= 5; what++) {
                due("cell " + cells[at] + ", " + what, numbers[at][what], c.cell(cells[at] % 8, cells[at] / 8, what));
            }
        }
    }

    private static void waterBeside() {
        CarvedRinks c = new CarvedRinks();
        for (int cell : new int[] {0, 7, 56, 63, 3, 24, 31, 60, 27}) {
            due("no water beside " + cell, 0, c.cell(cell % 8, cell / 8, 4));
        }
        Ponds.melt(c);
        for (int cell = 0; cell < 64; cell++) {
            int x = cell % 8;
            int y = cell / 8;
            int sides = 4 - (x == 0 || x == 7 ? 1 : 0) - (y == 0 || y == 7 ? 1 : 0);
            due("water beside " + cell, sides, c.cell(x, y, 4));
        }
        CarvedRinks d = new CarvedRinks();
        Ponds.holes(d, 18, 20, 34, 36);
        due("corners alone", 0, d.cell(3, 3, 4));
        int beside = 0;
        for (int cell : new int[] {19, 26, 28, 35}) {
            Ponds.holes(d, cell);
            beside++;
            due("behind the hole " + cell, beside, d.cell(3, 3, 4));
        }
    }

    private static void notSoManyRinks() {
        CarvedRinks c = Ponds.halved();
        int[][] rinks = {{0, 32, 0}, {4, 32, -1}, {-1, -1, -1}, {-1, -1, -1}};
        for (int rank = 0; rank <= 3; rank++) {
            for (int what = 0; what <= 2; what++) {
                due("rank " + rank + ", " + what, rinks[rank][what], c.rink(rank, what));
            }
        }
        for (int what = 0; what <= 2; what++) {
            due("rank 64, " + what, -1, c.rink(64, what));
            due("the greatest rank, " + what, -1, c.rink(Ponds.MOST, what));
        }
        CarvedRinks m = Ponds.carved();
        for (int rank = 0; rank < 64; rank++) {
            due("64 rinks, rank " + rank, rank, m.rink(rank, 0));
            due("64 rinks, cells of rank " + rank, 1, m.rink(rank, 1));
            due("64 rinks, owner of rank " + rank, rank == 57 ? -1 : 0, m.rink(rank, 2));
        }
        due("64 rinks, rank 64", -1, m.rink(64, 0));
        Ponds.melt(m);
        due("no rinks, rank 0", -1, m.rink(0, 0));
        due("no rinks, cells of rank 0", -1, m.rink(0, 1));
    }

    private static void rankByLowestCell() {
        CarvedRinks c = Ponds.onlyIce(62, 7, 15, 23, 22, 48, 56, 57, 32, 30);
        int[][] rinks = {{7, 5}, {32, 1}, {48, 3}, {62, 1}};
        for (int rank = 0; rank < 4; rank++) {
            due("rank " + rank, rinks[rank][0], c.rink(rank, 0));
            due("cells of rank " + rank, rinks[rank][1], c.rink(rank, 1));
        }
    }

    private static void rinksCountedTwice() {
        CarvedRinks c = Ponds.carved();
        due("64 by going", 64, c.count(1));
        due("64 by joining", 64, c.count(2));
        due("owned", 63, c.count(3));
        due("the greatest", 1, c.count(10));
        Ponds.melt(c);
        due("none by going", 0, c.count(1));
        due("none by joining", 0, c.count(2));
        due("none owned", 0, c.count(3));
        due("no greatest", 0, c.count(10));
        CarvedRinks s = new CarvedRinks();
        for (int cell = 0; cell < 64; cell++) {
            if ((cell % 8 + cell / 8) % 2 == 0) {
                s.hole(cell % 8, cell / 8);
            }
        }
        due("a chessboard by going", 32, s.count(1));
        due("a chessboard by joining", 32, s.count(2));
        due("the last of a chessboard", 62, s.rink(31, 0));
    }

    private static void ownedRinks() {
        due("none", 0, new CarvedRinks().count(3));
        due("of two skaters", 2, Ponds.columned().count(3));
        due("but three rinks", 3, Ponds.columned().count(1));
        CarvedRinks w = Ponds.cornered();
        Ponds.holes(w, 1, 8);
        due("parted by water", 2, w.count(3));
        due("by skater", 2, w.skater(0, 5));
        Ponds.holes(w, 0, 9);
        due("all of them water", 0, w.count(3));
    }

    private static void greatestRink() {
        CarvedRinks c = Ponds.halved();
        due("two like ones", 32, c.count(10));
        c.hole(0, 0);
        due("the later one", 32, c.count(10));
        Ponds.holes(c, 4, 5);
        due("the first one", 31, c.count(10));
    }

    // ---- the shares

    private static void dueShare(String what, double due, CarvedRinks c) {
        SENTENCES.due(what, Double.doubleToRawLongBits(due), Double.doubleToRawLongBits(c.ownedShare()));
    }

    private static void dueMean(String what, float due, CarvedRinks c) {
        SENTENCES.due(what, Float.floatToRawIntBits(due), Float.floatToRawIntBits(c.meanRink()));
    }

    private static void ownedShares() {
        dueShare("none is owned", 0.0, new CarvedRinks());
        dueShare("all but one", 63.0 / 64.0, Ponds.carved());
        CarvedRinks c = Ponds.cornered();
        dueShare("4 of 64", 4.0 / 64.0, c);
        c.hole(5, 5);
        dueShare("4 of 63", 4.0 / 63.0, c);
        c.hole(0, 0);
        dueShare("3 of 62", 3.0 / 62.0, c);
        CarvedRinks w = Ponds.halved();
        for (int cell = 0; cell < 64; cell++) {
            if (cell % 8 >= 4) {
                w.hole(cell % 8, cell / 8);
            }
        }
        dueShare("all", 1.0, w);
    }

    private static void ownedShareWithoutIce() {
        CarvedRinks c = Ponds.cornered();
        Ponds.melt(c);
        dueShare("no ice", 0.0, c);
    }

    private static void meanRinks() {
        dueMean("one rink", 64.0f, new CarvedRinks());
        dueMean("64 rinks", 1.0f, Ponds.carved());
        CarvedRinks c = Ponds.columned();
        dueMean("64 in 3", 64.0f / 3.0f, c);
        c.hole(7, 7);
        dueMean("63 in 3", 21.0f, c);
        dueMean("one cell", 1.0f, Ponds.onlyIce(63));
    }

    private static void meanRinkWithoutIce() {
        CarvedRinks c = Ponds.cornered();
        Ponds.melt(c);
        dueMean("no ice", 0.0f, c);
    }

    public static void main(String[] args) {
        Sentences s = SENTENCES;
        s.test("1 A new object",
                "Creates a pond of ice with skaters as told above, with an empty buffer and no "
                        + "snapshot.",
                PondBoundariesTest::newPond);
        s.test("1 A new object",
                "There are 3 skaters, numbered from 0, at the points (0, 0), (8, 0) and (0, 8) at "
                        + "first, each with a purse of 20 at first.",
                PondBoundariesTest::newSkaters);
        s.test("1 A new object",
                "0: the toll, 0 to 9, at first 2; 1: the wear that a line bears, 1 to 9, at first 3; "
                        + "2: water cells for thawing, 1 to 4, at first 2.",
                PondBoundariesTest::newSettings);
        s.test("14 cell",
                "The pond has 8 columns and 8 rows of cells, x and y from 0 to 7, the row 0 in the "
                        + "north; the number of a cell is 8 y and x, together.",
                PondBoundariesTest::cellNumbers);
        s.test("14 cell", "A cell is ice, as at first, or water.", PondBoundariesTest::iceOrWater);
        s.test("15 line",
                "There are points at the corners of the cells, 9 columns and 9 rows, x and y from 0 "
                        + "to 8;",
                PondBoundariesTest::points);
        s.test("15 line",
                "the point (x, y) is the north western corner of the cell (x, y).",
                PondBoundariesTest::northWesternCorner);
        s.test("15 line",
                "beside it are two cells, or, at the edge of the pond, one.",
                PondBoundariesTest::cellsBesideLines);
        s.test("15 line", "at first not; each line has a wear, at first 0.", PondBoundariesTest::linesAtFirst);
        s.test("15 line",
                "A line that has two cells beside it is cut or not",
                PondBoundariesTest::edgeLinesAreNotCut);
        s.test("2 glide",
                "if the line has two ice cells beside it and is not cut, it is cut now.",
                PondBoundariesTest::innerLinesAreCut);
        s.test("15 line",
                "Throws `IndexOutOfBoundsException` if there is no such point, or, with the "
                        + "direction 1 or 2, no such line",
                PondBoundariesTest::noSuchLine);
        s.test("18 count",
                "A rink is an ice cell with all ice cells beside it (in a row or a column)",
                PondBoundariesTest::besideInRowsAndColumns);
        s.test("18 count", "with no cut line between,", PondBoundariesTest::noCutLineBetween);
        s.test("18 count", "all such cells beside these, and so on.", PondBoundariesTest::andSoOn);
        s.test("14 cell", "It is told by its lowest cell.", PondBoundariesTest::toldByItsLowestCell);
        s.test("14 cell",
                "(All cells of a rink are always owned by the same.)",
                PondBoundariesTest::allCellsOwnedByTheSame);
        s.test("14 cell",
                "1: who owns it, NONE if none does; 2: its rink, told by its lowest cell, NONE if it "
                        + "is water; 3: the cells of its rink, 0 if it is water;",
                PondBoundariesTest::cellOfWater);
        s.test("14 cell", "4: water cells beside it;", PondBoundariesTest::waterBeside);
        s.test("17 rink",
                "Returns the number; NONE if there are not so many.",
                PondBoundariesTest::notSoManyRinks);
        s.test("17 rink",
                "0 for the rink with the lowest cell of all, and so on",
                PondBoundariesTest::rankByLowestCell);
        s.test("18 count",
                "1: rinks, told by going from cell to cell; 2: rinks, told by joining: at first each "
                        + "ice cell is a rink, and for each line without a cut between two ice cells both "
                        + "rinks become one;",
                PondBoundariesTest::rinksCountedTwice);
        s.test("18 count", "3: rinks that are owned;", PondBoundariesTest::ownedRinks);
        s.test("18 count", "10: the cells of the greatest rink;", PondBoundariesTest::greatestRink);
        s.test("24 ownedShare",
                "Returns the ice cells that are owned as a double, divided by all ice cells;",
                PondBoundariesTest::ownedShares);
        s.test("24 ownedShare", "0.0 without ice.", PondBoundariesTest::ownedShareWithoutIce);
        s.test("25 meanRink",
                "Returns the ice cells as a float, divided by the rinks;",
                PondBoundariesTest::meanRinks);
        s.test("25 meanRink", "0.0f without ice.", PondBoundariesTest::meanRinkWithoutIce);
        s.end();
    }
}
