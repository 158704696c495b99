import java.util.Arrays;

/** The boundary cases that the document names of thaws, holes, purses and settings. */
public final class ThawBoundariesTest {
    private static final Sentences SENTENCES = new Sentences();

    private static void due(String what, long due, long got) {
        SENTENCES.due(what, due, got);
    }

    /** The cells beside a cell, by their numbers. */
    private static int[] neighbours(int cell) {
        int[] found = new int[4];
        int all = 0;
        int[][] offsets = {{0, -1}, {1, 0}, {0, 1}, {-1, 0}};
        for (int[] offset : offsets) {
            int x = cell % 8 + offset[0];
            int y = cell / 8 + offset[1];
            if (x >= 0 && x < 8 && y >= 0 && y < 8) {
                found[all] = 8 * y + x;
                all++;
            }
        }
        return Arrays.copyOf(found, all);
    }

    /** A path of 24 cells without a branch, with setting 2 as 3: it thaws from its end 36 on alone. */
    private static CarvedRinks path() {
        CarvedRinks c = Ponds.onlyIce(1, 9, 10, 11, 12, 13, 14, 22, 30, 38, 46, 54, 53, 52, 51, 50, 49, 41, 33,
                25, 26, 27, 28, 36);
        c.set(2, 3);
        return c;
    }

    // ---- thaw

    /** Each choice of water cells beside a cell, for each setting. */
    private static void dueThaws(int cell) {
        int[] beside = neighbours(cell);
        for (int choice = 0; choice < 1 << beside.length; choice++) {
            for (int needed = 1; needed <= 4; needed++) {
                CarvedRinks c = new CarvedRinks();
                c.set(2, needed);
                for (int at = 0; at < beside.length; at++) {
                    if ((choice >> at & 1) == 1) {
                        Ponds.holes(c, beside[at]);
                    }
                }
                int water = Integer.bitCount(choice);
                String what = "cell " + cell + ", needed " + needed + ", choice " + choice;
                due(what + ", beside", water, c.cell(cell % 8, cell / 8, 4));
                boolean thaws = water >= needed;
                due(what + ", foretold", thaws ? 1 : 0, c.cell(cell % 8, cell / 8, 5) == 1 ? 1 : 0);
                c.thaw();
                due(what, thaws ? 0 : 1, c.cell(cell % 8, cell / 8, 0));
            }
        }
    }

    private static void asManyWaterCells() {
        for (int cell : new int[] {0, 7, 56, 63, 3, 24, 31, 60, 27, 54}) {
            dueThaws(cell);
        }
    }

    private static void outsideIsNoWater() {
        CarvedRinks c = new CarvedRinks();
        c.set(2, 1);
        due("no water", 0, c.thaw());
        c.set(2, 2);
        Ponds.holes(c, 3, 24, 31, 60);
        due("one hole at each edge", 0, c.thaw());
        due("two cells beside them need more", 60, c.count(0));
    }

    private static void inRowAndColumn() {
        CarvedRinks c = new CarvedRinks();
        c.set(2, 1);
        Ponds.holes(c, 31);
        due("beside (7, 3)", 3, c.thaw());
        due("not (0, 4)", 1, c.cell(0, 4, 0));
        due("not (6, 2)", 1, c.cell(6, 2, 0));
        CarvedRinks w = new CarvedRinks();
        w.set(2, 1);
        Ponds.holes(w, 32);
        due("beside (0, 4)", 3, w.thaw());
        due("not (7, 3)", 1, w.cell(7, 3, 0));
        CarvedRinks n = new CarvedRinks();
        n.set(2, 1);
        Ponds.holes(n, 3);
        due("beside (3, 0)", 3, n.thaw());
        due("not (3, 7)", 1, n.cell(3, 7, 0));
        CarvedRinks s = new CarvedRinks();
        s.set(2, 1);
        Ponds.holes(s, 60);
        due("beside (4, 7)", 3, s.thaw());
        due("not (4, 0)", 1, s.cell(4, 0, 0));
    }

    private static void overCuts() {
        CarvedRinks c = Ponds.cornered();
        c.set(2, 1);
        Ponds.holes(c, 2, 16);
        due("beside two holes", 6, c.thaw());
        due("over the cut west", 0, c.cell(1, 0, 0));
        due("over the cut north", 0, c.cell(0, 1, 0));
        due("not the one within", 1, c.cell(0, 0, 0));
        CarvedRinks m = Ponds.carved();
        Ponds.holes(m, 1, 8);
        due("all lines cut", 2, m.thaw());
        due("the corner", 0, m.cell(0, 0, 0));
        due("(1, 1)", 0, m.cell(1, 1, 0));
    }

    private static void allAtOnce() {
        CarvedRinks c = new CarvedRinks();
        c.set(2, 1);
        Ponds.holes(c, 0);
        int[] cells = {2, 3, 4, 5, 6, 7, 8, 7, 6, 5, 4, 3, 2, 1};
        int left = 63;
        for (int thaw = 0; thaw < cells.length; thaw++) {
            due("thaw " + thaw, cells[thaw], c.thaw());
            left -= cells[thaw];
            due("ice behind thaw " + thaw, left, c.count(0));
        }
        due("no ice", 0, c.count(0));
        due("nothing is left to thaw", 0, c.thaw());
        CarvedRinks r = new CarvedRinks();
        Ponds.holes(r, 1, 8);
        due("(0, 0) and (1, 1), nothing that these would bring", 2, r.thaw());
    }

    private static void thawIsUndoable() {
        CarvedRinks c = new CarvedRinks();
        due("nothing becomes water", 0, c.thaw());
        due("thaws", 1, c.count(6));
        due("saved", 1, c.count(11));
        due("undone", 0, c.undo());
        due("thaws then", 0, c.count(6));
        Ponds.holes(c, 1, 8);
        due("two become water", 2, c.thaw());
        due("became water", 4, c.count(7));
        c.undo();
        due("ice again", 62, c.count(0));
        due("became water then", 2, c.count(7));
        due("no thaw", 0, c.count(6));
    }

    private static void thawTellsTheNewWater() {
        due("none", 0, new CarvedRinks().thaw());
        due("none without ice", 0, Ponds.onlyIce().thaw());
        CarvedRinks one = Ponds.onlyIce(0, 63);
        due("two alone", 2, one.thaw());
        CarvedRinks half = new CarvedRinks();
        for (int cell = 0; cell < 64; cell++) {
            if ((cell % 8 + cell / 8) % 2 == 0) {
                half.hole(cell % 8, cell / 8);
            }
        }
        half.set(2, 4);
        due("all 18 within a chessboard", 18, half.thaw());
        half.set(2, 1);
        due("the other 14", 14, half.thaw());
    }

    private static void countedSoFar() {
        CarvedRinks c = new CarvedRinks();
        c.set(1, 1);
        c.glide(0, Ponds.SOUTH, 2);
        c.glide(0, Ponds.EAST, 1);
        c.glide(0, Ponds.WEST, 1);
        due("a crack beside two cells is one", 1, c.count(5));
        due("two cells became water", 2, c.count(7));
        c.hole(5, 5);
        due("a hole is no crack", 1, c.count(5));
        due("but water", 3, c.count(7));
        c.thaw();
        due("a thaw of nothing", 1, c.count(6));
        c.set(2, 1);
        due("cells that thaw", 8, c.thaw());
        due("became water", 11, c.count(7));
        due("thaws", 2, c.count(6));
        due("cracks", 1, c.count(5));
        due("ice", 53, c.count(0));
    }

    // ---- when a cell thaws

    private static void behindHowManyThaws() {
        CarvedRinks c = new CarvedRinks();
        c.set(2, 1);
        due("without water never", -1, c.cell(0, 0, 5));
        Ponds.holes(c, 0);
        due("it is water now", 0, c.cell(0, 0, 5));
        for (int cell = 1; cell < 64; cell++) {
            due("cell " + cell, cell % 8 + cell / 8, c.cell(cell % 8, cell / 8, 5));
        }
        CarvedRinks n = new CarvedRinks();
        Ponds.holes(n, 1, 8);
        due("behind one", 1, n.cell(0, 0, 5));
        due("behind one, too", 1, n.cell(1, 1, 5));
        due("never beside a square of water", -1, n.cell(2, 0, 5));
        due("never further away", -1, n.cell(7, 7, 5));
        CarvedRinks p = path();
        int[] path = {36, 28, 27, 26, 25, 33, 41, 49, 50, 51, 52, 53, 54, 46, 38, 30, 22, 14, 13, 12, 11, 10, 9, 1};
        for (int at = 0; at < path.length; at++) {
            due("place " + at + " of a path", at + 1, p.cell(path[at] % 8, path[at] / 8, 5));
        }
        CarvedRinks f = new CarvedRinks();
        f.set(2, 4);
        Ponds.holes(f, 1, 8);
        due("two beside a corner are too few for 4", -1, f.cell(0, 0, 5));
    }

    private static void untilCalm() {
        CarvedRinks c = new CarvedRinks();
        due("at first", 0, c.calm());
        c.set(2, 1);
        due("without water", 0, c.calm());
        Ponds.holes(c, 0);
        for (int left = 14; left >= 0; left--) {
            due("from a corner", left, c.calm());
            c.thaw();
        }
        due("without ice", 0, c.calm());
        CarvedRinks one = new CarvedRinks();
        Ponds.holes(one, 1, 8);
        due("one thaw", 1, one.calm());
        one.thaw();
        due("calm with ice left", 0, one.calm());
        due("along a path", 24, path().calm());
        CarvedRinks never = new CarvedRinks();
        never.set(2, 4);
        Ponds.holes(never, 1, 8, 63);
        due("too much is needed", 0, never.calm());
    }

    // ---- hole

    private static void holeTellsTheOwner() {
        CarvedRinks c = Ponds.columned();
        due("of 0", 0, c.hole(0, 0));
        due("of 0, beside the cut", 0, c.hole(3, 7));
        due("of 1", 1, c.hole(4, 7));
        due("of none", -1, c.hole(7, 7));
        due("of none, beside the cut", -1, c.hole(5, 0));
        due("became water", 5, c.count(7));
        CarvedRinks t = new CarvedRinks();
        t.glide(2, Ponds.NORTH, 1);
        t.glide(2, Ponds.EAST, 1);
        t.glide(2, Ponds.SOUTH, 1);
        due("of 2", 2, t.hole(0, 7));
    }

    private static void holeInWater() {
        SENTENCES.refused("IllegalStateException", "a hole", Ponds::busy, c -> c.hole(6, 6));
        Sentences.Pond thawed = () -> {
            CarvedRinks c = new CarvedRinks();
            Ponds.holes(c, 1, 8);
            c.thaw();
            return c;
        };
        SENTENCES.refused("IllegalStateException", "thawed", thawed, c -> c.hole(0, 0));
        SENTENCES.refused("IllegalStateException", "thawed, too", thawed, c -> c.hole(1, 1));
        Sentences.Pond cracked = () -> {
            CarvedRinks c = new CarvedRinks();
            c.set(1, 1);
            c.glide(1, Ponds.SOUTH, 1);
            c.glide(1, Ponds.NORTH, 1);
            return c;
        };
        SENTENCES.refused("IllegalStateException", "cracked", cracked, c -> c.hole(7, 0));
        CarvedRinks all = new CarvedRinks();
        for (int cell = 0; cell < 64; cell++) {
            due("the hole " + cell, -1, all.hole(cell % 8, cell / 8));
        }
        all.undo();
        due("ice again by undo", -1, all.hole(7, 7));
    }

    private static void holeIsUndoable() {
        for (int cell : new int[] {0, 7, 56, 63}) {
            CarvedRinks c = Ponds.carved();
            int owner = c.cell(cell % 8, cell / 8, 1);
            due("the owner of " + cell, owner, c.hole(cell % 8, cell / 8));
            due("63 are left", 63, c.count(0));
            due("63 rinks are left", 63, c.count(1));
            c.undo();
            due("owned as before, " + cell, owner, c.cell(cell % 8, cell / 8, 1));
            due("64 rinks", 64, c.count(2));
        }
    }

    // ---- pay

    private static CarvedRinks filled(int filled) {
        CarvedRinks c = new CarvedRinks();
        int left = filled - 60;
        while (left > 0) {
            c.pay(0, Math.min(left, 99));
            left -= 99;
        }
        return c;
    }

    private static void coins() {
        CarvedRinks c = new CarvedRinks();
        due("1", 21, c.pay(0, 1));
        due("99", 120, c.pay(0, 99));
        due("another purse", 119, c.pay(1, 99));
        due("the last purse", 21, c.pay(2, 1));
        due("in all purses", 260, c.count(8));
        due("filled", 260, c.count(9));
        due("saved", 4, c.count(11));
    }

    private static void noMoreThan9999() {
        due("9999", 9959, filled(9998).pay(0, 1));
        due("9999 by 99", 119, filled(9900).pay(1, 99));
        due("count(9)", 9999, filled(9999).count(9));
        due("count(8)", 9999, filled(9999).count(8));
        due("one purse", 9959, filled(9999).skater(0, 2));
        for (int skater = 0; skater < 3; skater++) {
            int paid = skater;
            SENTENCES.refused("IllegalStateException", "10000", () -> filled(9999), c -> c.pay(paid, 1));
            SENTENCES.refused("IllegalStateException", "10000 by 2", () -> filled(9998), c -> c.pay(paid, 2));
            SENTENCES.refused("IllegalStateException", "10000 by 99", () -> filled(9901), c -> c.pay(paid, 99));
            SENTENCES.refused("IllegalStateException", "10098", () -> filled(9999), c -> c.pay(paid, 99));
        }
        CarvedRinks u = filled(9999);
        u.undo();
        due("undone", 21, u.pay(2, 1));
    }

    // ---- settings

    private static void eachValue() {
        int[][] ranges = {{0, 9, 2}, {1, 9, 3}, {1, 4, 2}};
        for (int setting = 0; setting < 3; setting++) {
            CarvedRinks c = new CarvedRinks();
            int previous = ranges[setting][2];
            for (int value = ranges[setting][0]; value <= ranges[setting][1]; value++) {
                due("setting " + setting + ", previous of " + value, previous, c.set(setting, value));
                due("setting " + setting, value, c.setting(setting));
                due("setting " + setting + ", the same again", value, c.set(setting, value));
                previous = value;
            }
            for (int other = 0; other < 3; other++) {
                if (other != setting) {
                    due("not setting " + other, ranges[other][2], c.setting(other));
                }
            }
        }
    }

    private static void valueOutOfRange() {
        int[][] ranges = {{0, 9}, {1, 9}, {1, 4}};
        for (int setting = 0; setting < 3; setting++) {
            int s = setting;
            for (int wrong : Ponds.beyond(ranges[setting][0], ranges[setting][1])) {
                SENTENCES.refused("IllegalArgumentException", "setting " + setting + ", " + wrong, Ponds::busy,
                        c -> c.set(s, wrong));
            }
        }
        SENTENCES.refused("IllegalArgumentException", "a wear of 0", Ponds::busy, c -> c.set(1, 0));
        SENTENCES.refused("IllegalArgumentException", "no water cells", Ponds::busy, c -> c.set(2, 0));
        SENTENCES.refused("IllegalArgumentException", "5 water cells", Ponds::busy, c -> c.set(2, 5));
    }

    private static void setToTheSame() {
        CarvedRinks c = new CarvedRinks();
        due("2 as before", 2, c.set(0, 2));
        due("saved", 1, c.count(11));
        due("undone", 0, c.undo());
    }

    public static void main(String[] args) {
        Sentences s = SENTENCES;
        s.test("3 thaw",
                "all ice cells that have setting 2 or more water cells beside them",
                ThawBoundariesTest::asManyWaterCells);
        s.test("3 thaw", "A cell is ice, as at first, or water.", ThawBoundariesTest::outsideIsNoWater);
        s.test("3 thaw", "(in their row and column,", ThawBoundariesTest::inRowAndColumn);
        s.test("3 thaw", "whether lines between are cut or not)", ThawBoundariesTest::overCuts);
        s.test("3 thaw", "become water, all at once.", ThawBoundariesTest::allAtOnce);
        s.test("3 thaw", "Lets the pond thaw. Undoable.", ThawBoundariesTest::thawIsUndoable);
        s.test("3 thaw", "Returns how many cells become water.", ThawBoundariesTest::thawTellsTheNewWater);
        s.test("18 count",
                "5: lines that cracked so far; 6: thaws so far; 7: cells that became water so far;",
                ThawBoundariesTest::countedSoFar);
        s.test("14 cell",
                "5: behind how many thaws it is water, if nothing else is done, 0 if it is now; NONE "
                        + "if it never is",
                ThawBoundariesTest::behindHowManyThaws);
        s.test("23 calm",
                "Returns behind how many thaws a further one would make no cell water.",
                ThawBoundariesTest::untilCalm);
        s.test("4 hole", "Returns who owned it, NONE if none did.", ThawBoundariesTest::holeTellsTheOwner);
        s.test("4 hole",
                "Makes a hole in the ice: a cell becomes water. Undoable.",
                ThawBoundariesTest::holeIsUndoable);
        s.test("4 hole", "Throws `IllegalStateException` if it is water", ThawBoundariesTest::holeInWater);
        s.test("5 pay", "Returns what is in it then.", ThawBoundariesTest::coins);
        s.test("5 pay",
                "Throws `IllegalStateException` if count(9) would be above 9999 then",
                ThawBoundariesTest::noMoreThan9999);
        s.test("6 set",
                "0: the toll, 0 to 9, at first 2; 1: the wear that a line bears, 1 to 9, at first 3; "
                        + "2: water cells for thawing, 1 to 4, at first 2.",
                ThawBoundariesTest::eachValue);
        s.test("6 set",
                "Throws `IllegalArgumentException` if value is out of range",
                ThawBoundariesTest::valueOutOfRange);
        s.test("6 set",
                "saves the state from before it (also if it changes nothing):",
                ThawBoundariesTest::setToTheSame);
        s.end();
    }
}
