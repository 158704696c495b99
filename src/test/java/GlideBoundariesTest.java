/** The boundary cases that the document names of gliding, and of what a glide would bring. */
public final class GlideBoundariesTest {
    private static final Sentences SENTENCES = new Sentences();
    private static final int NORTH = Ponds.NORTH;
    private static final int EAST = Ponds.EAST;
    private static final int SOUTH = Ponds.SOUTH;
    private static final int WEST = Ponds.WEST;

    private static void due(String what, long due, long got) {
        SENTENCES.due(what, due, got);
    }

    /** Why a skater can not make a step, for the directions 0 to 3; a glide then makes none. */
    private static void dueWhy(String what, CarvedRinks c, int skater, int... reasons) {
        for (int direction = 0; direction < 4; direction++) {
            due(what + ", why " + direction, reasons[direction], c.why(skater, direction));
            if (reasons[direction] != 0) {
                due(what + ", glide " + direction, 0, c.glide(skater, direction, 1));
            }
        }
    }

    private static void duePurses(String what, CarvedRinks c, int first, int second, int third) {
        due(what + ", purse 0", first, c.skater(0, 2));
        due(what + ", purse 1", second, c.skater(1, 2));
        due(what + ", purse 2", third, c.skater(2, 2));
    }

    private static void backAndForth(CarvedRinks c, int skater, int direction, int steps) {
        for (int step = 0; step < steps; step++) {
            c.glide(skater, step % 2 == 0 ? direction : (direction + 2) % 4, 1);
        }
    }

    // ---- why a step can not be made

    private static void directions() {
        CarvedRinks c = new CarvedRinks();
        c.glide(0, EAST, 3);
        due("east, x", 3, c.skater(0, 0));
        due("east, y", 0, c.skater(0, 1));
        c.glide(0, SOUTH, 5);
        due("south, x", 3, c.skater(0, 0));
        due("south, y", 5, c.skater(0, 1));
        c.glide(0, WEST, 2);
        due("west, x", 1, c.skater(0, 0));
        due("west, y", 5, c.skater(0, 1));
        c.glide(0, NORTH, 4);
        due("north, x", 1, c.skater(0, 0));
        due("north, y", 1, c.skater(0, 1));
        due("the first line", 1, c.line(0, 0, 1, 0));
        due("a line south", 1, c.line(3, 4, 2, 0));
        due("a line glided west", 1, c.line(1, 5, 1, 0));
        due("a line glided north", 1, c.line(1, 1, 2, 0));
        due("no further one west", 0, c.line(0, 5, 1, 0));
        due("no further one north", 0, c.line(1, 0, 2, 0));
    }

    private static void noPoint() {
        CarvedRinks c = new CarvedRinks();
        dueWhy("(0, 0)", c, 0, 1, 0, 0, 1);
        dueWhy("(8, 0)", c, 1, 1, 1, 0, 0);
        dueWhy("(0, 8)", c, 2, 0, 0, 1, 1);
        c.glide(1, SOUTH, 8);
        dueWhy("(8, 8)", c, 1, 0, 1, 1, 0);
        c.glide(0, EAST, 4);
        dueWhy("(4, 0)", c, 0, 1, 0, 0, 0);
        c.glide(1, NORTH, 3);
        dueWhy("(8, 5)", c, 1, 0, 1, 0, 0);
        c.glide(2, NORTH, 2);
        dueWhy("(0, 6)", c, 2, 0, 0, 0, 1);
        c.glide(2, SOUTH, 2);
        c.glide(2, EAST, 7);
        dueWhy("(7, 8)", c, 2, 0, 0, 1, 0);
    }

    private static void anotherSkater() {
        CarvedRinks c = new CarvedRinks();
        c.glide(0, EAST, 7);
        dueWhy("at (7, 0), one east of it", c, 0, 1, 2, 0, 0);
        dueWhy("at (8, 0), one west of it", c, 1, 1, 1, 0, 2);
        CarvedRinks d = new CarvedRinks();
        d.glide(2, NORTH, 6);
        dueWhy("two points away", d, 0, 1, 0, 0, 1);
        d.glide(2, NORTH, 1);
        dueWhy("at (0, 0), one south of it", d, 0, 1, 0, 2, 1);
        dueWhy("at (0, 1), one north of it", d, 2, 2, 0, 0, 1);
    }

    private static void noIceBeside() {
        CarvedRinks c = new CarvedRinks();
        Ponds.holes(c, 0);
        dueWhy("at the edge beside water", c, 0, 1, 3, 3, 1);
        CarvedRinks d = new CarvedRinks();
        d.glide(0, EAST, 4);
        d.glide(0, SOUTH, 4);
        Ponds.holes(d, 27);
        dueWhy("beside one water cell", d, 0, 0, 0, 0, 0);
        Ponds.holes(d, 28);
        dueWhy("water on both sides north", d, 0, 3, 0, 0, 0);
        Ponds.holes(d, 36);
        dueWhy("and east", d, 0, 3, 3, 0, 0);
        Ponds.holes(d, 35);
        dueWhy("and all round", d, 0, 3, 3, 3, 3);
    }

    private static void purseHasLess() {
        CarvedRinks c = Ponds.halved();
        c.glide(2, NORTH, 4);
        c.set(0, 9);
        due("two tolls of 9 out of 20", 2, c.glide(2, EAST, 4));
        duePurses("behind two tolls", c, 38, 20, 2);
        dueWhy("2 in the purse", c, 2, 4, 4, 4, 4);
        c.pay(2, 6);
        dueWhy("8 in the purse", c, 2, 4, 4, 4, 4);
        c.pay(2, 1);
        dueWhy("9 in the purse", c, 2, 0, 0, 0, 0);
        due("it is enough", 1, c.glide(2, EAST, 4));
        duePurses("nothing is left", c, 47, 20, 0);
        dueWhy("nothing in the purse", c, 2, 4, 4, 4, 4);
        c.set(0, 1);
        dueWhy("a toll of 1", c, 2, 4, 4, 4, 4);
        c.set(0, 0);
        dueWhy("a toll of 0", c, 2, 0, 0, 0, 0);
    }

    /** Skater 2 stands within the corner that skater 0 owns, with an empty purse; 0 is south of it. */
    private static CarvedRinks drained() {
        CarvedRinks c = Ponds.cornered();
        c.glide(0, EAST, 1);
        c.glide(2, NORTH, 7);
        c.glide(2, EAST, 1);
        c.set(0, 9);
        c.glide(2, EAST, 1);
        c.glide(2, WEST, 1);
        return c;
    }

    private static void firstReason() {
        CarvedRinks c = drained();
        due("an empty purse", 0, c.skater(2, 2));
        dueWhy("another one is there, ahead of the toll", c, 2, 4, 4, 2, 4);
        c.glide(0, SOUTH, 1);
        dueWhy("the toll then", c, 2, 4, 4, 4, 4);
        CarvedRinks w = new CarvedRinks();
        w.glide(0, EAST, 7);
        Ponds.holes(w, 7);
        dueWhy("another one is there, ahead of no ice", w, 0, 1, 2, 0, 0);
        dueWhy("no point, ahead of no ice", w, 1, 1, 1, 3, 2);
        w.glide(0, WEST, 1);
        dueWhy("no ice then", w, 1, 1, 1, 3, 3);
    }

    // ---- tolls

    private static void tollLines() {
        CarvedRinks edge = Ponds.halved();
        due("at the edge", 8, edge.glide(2, NORTH, 8));
        duePurses("at the edge", edge, 20, 20, 20);
        CarvedRinks water = Ponds.halved();
        Ponds.holes(water, 33);
        water.glide(2, NORTH, 4);
        water.glide(2, EAST, 2);
        duePurses("the second line has water beside it", water, 22, 20, 18);
        CarvedRinks own = Ponds.halved();
        own.glide(0, WEST, 2);
        due("its own rink", 8, own.glide(0, NORTH, 8));
        duePurses("its own rink", own, 20, 20, 20);
        CarvedRinks none = Ponds.halved();
        none.glide(1, WEST, 2);
        none.glide(1, SOUTH, 5);
        duePurses("a rink of nobody", none, 20, 20, 20);
    }

    private static void tollOfTheSame() {
        CarvedRinks border = Ponds.columned();
        border.glide(2, NORTH, 8);
        border.glide(2, EAST, 4);
        due("between two owners", 7, border.glide(2, SOUTH, 8));
        duePurses("between two owners", border, 20, 20, 20);
        CarvedRinks free = Ponds.columned();
        free.glide(2, NORTH, 8);
        free.glide(2, EAST, 5);
        due("between an owner and nobody", 7, free.glide(2, SOUTH, 8));
        duePurses("between an owner and nobody", free, 20, 20, 20);
        CarvedRinks own = Ponds.columned();
        own.set(0, 9);
        own.glide(0, NORTH, 1);
        own.glide(0, EAST, 1);
        own.glide(0, WEST, 1);
        duePurses("two tolls to 1", own, 2, 38, 20);
        due("its own rink with less in the purse", 0, own.why(0, WEST));
        due("a step there", 1, own.glide(0, WEST, 1));
        due("no toll to itself", 18, own.skater(0, 7));
        due("none got from itself", 0, own.skater(0, 8));
        CarvedRinks two = Ponds.halved();
        two.glide(0, WEST, 2);
        two.glide(0, NORTH, 8);
        two.glide(0, EAST, 2);
        due("rinks of skater 0", 2, two.skater(0, 5));
        two.glide(2, NORTH, 8);
        two.glide(2, EAST, 2);
        two.glide(2, SOUTH, 3);
        duePurses("between two rinks of one owner", two, 26, 20, 14);
    }

    private static void tollGoesFromOneToTheOther() {
        CarvedRinks c = Ponds.columned();
        c.glide(0, NORTH, 1);
        due("skater 0 through the column of 1", 1, c.glide(0, EAST, 1));
        duePurses("from 0 to 1", c, 18, 22, 20);
        c.set(0, 9);
        c.glide(0, NORTH, 2);
        c.glide(1, NORTH, 1);
        due("skater 1 through it", 1, c.glide(1, WEST, 1));
        duePurses("none for its own column", c, 18, 22, 20);
        c.glide(1, WEST, 1);
        duePurses("from 1 to 0", c, 27, 13, 20);
        c.set(0, 1);
        c.glide(2, NORTH, 2);
        c.glide(2, EAST, 5);
        duePurses("from 2 to both", c, 31, 14, 15);
        int[][] tolls = {{2, 13}, {9, 3}, {5, 0}};
        for (int skater = 0; skater < 3; skater++) {
            due("paid by " + skater, tolls[skater][0], c.skater(skater, 7));
            due("got by " + skater, tolls[skater][1], c.skater(skater, 8));
        }
        due("all purses", 60, c.count(8));
    }

    private static void tollOfNothing() {
        CarvedRinks c = Ponds.halved();
        c.set(0, 0);
        c.glide(2, NORTH, 4);
        due("through the rink", 4, c.glide(2, EAST, 4));
        duePurses("nothing is paid", c, 20, 20, 20);
        due("paid", 0, c.skater(2, 7));
        due("got", 0, c.skater(0, 8));
    }

    private static void tollsSoFar() {
        CarvedRinks c = Ponds.halved();
        c.glide(2, NORTH, 4);
        due("none yet", 0, c.skater(2, 7));
        c.glide(2, EAST, 1);
        c.set(0, 9);
        c.glide(2, EAST, 1);
        due("2 and 9 are paid", 11, c.skater(2, 7));
        due("2 and 9 are got", 11, c.skater(0, 8));
        due("none is paid by the owner", 0, c.skater(0, 7));
        due("none is got by the one that pays", 0, c.skater(2, 8));
        due("what is left", 9, c.skater(2, 2));
        due("one more, and the purse is empty", 1, c.glide(2, EAST, 2));
        due("20 are paid", 20, c.skater(2, 7));
        c.undo();
        due("undone", 11, c.skater(2, 7));
        due("undone for the owner", 11, c.skater(0, 8));
    }

    // ---- wear, cracks and cuts

    private static void tollAheadOfTheCrack() {
        CarvedRinks c = Ponds.halved();
        c.set(1, 1);
        c.glide(2, NORTH, 4);
        c.glide(2, EAST, 1);
        due("it cracks", 2, c.ifGlided(2, WEST, 1, 2));
        c.glide(2, WEST, 1);
        due("water", 0, c.line(0, 4, 1, 2));
        duePurses("two tolls", c, 24, 20, 16);
        due("paid", 4, c.skater(2, 7));
        due("got", 4, c.skater(0, 8));
    }

    private static void wearAboveTheSetting() {
        for (int bears = 1; bears <= 9; bears++) {
            CarvedRinks c = new CarvedRinks();
            c.set(1, bears);
            backAndForth(c, 0, EAST, bears);
            due("wear as much as it bears, " + bears, bears, c.line(0, 0, 1, 0));
            due("no crack", 0, c.count(5));
            due("ice", 1, c.cell(0, 0, 0));
            due("the step that cracks it is made", 1, c.glide(0, bears % 2 == 0 ? EAST : WEST, 1));
            due("wear above what it bears", bears + 1, c.line(0, 0, 1, 0));
            due("a crack", 1, c.count(5));
            due("water", 0, c.cell(0, 0, 0));
            due("its x", bears % 2 == 0 ? 1 : 0, c.skater(0, 0));
        }
        CarvedRinks l = new CarvedRinks();
        backAndForth(l, 0, EAST, 3);
        l.set(1, 1);
        due("only a step cracks a line", 64, l.count(0));
        l.glide(0, WEST, 1);
        due("far above what it bears then", 63, l.count(0));
        CarvedRinks h = new CarvedRinks();
        backAndForth(h, 0, EAST, 3);
        h.set(1, 4);
        h.glide(0, WEST, 1);
        due("it bears more by now", 64, h.count(0));
    }

    private static void cracksToWater() {
        CarvedRinks two = new CarvedRinks();
        two.set(1, 1);
        two.glide(0, SOUTH, 1);
        backAndForth(two, 0, EAST, 2);
        due("two cells", 2, two.count(7));
        due("the northern one", 0, two.cell(0, 0, 0));
        due("the southern one", 0, two.cell(0, 1, 0));
        due("none beside the line", 0, two.line(0, 1, 1, 2));
        due("the cell east of it", 1, two.cell(1, 0, 0));
        CarvedRinks one = new CarvedRinks();
        one.set(1, 1);
        backAndForth(one, 1, SOUTH, 2);
        due("one cell at the edge", 1, one.count(7));
        due("which one", 0, one.cell(7, 0, 0));
        CarvedRinks rest = new CarvedRinks();
        rest.set(1, 1);
        rest.glide(0, SOUTH, 1);
        Ponds.holes(rest, 0);
        backAndForth(rest, 0, EAST, 2);
        due("a hole and the other cell", 2, rest.count(7));
        due("one crack", 1, rest.count(5));
        due("a line that cracks is not cut", 0, rest.line(0, 1, 1, 1));
        CarvedRinks on = new CarvedRinks();
        on.set(1, 1);
        on.glide(0, EAST, 4);
        due("it glides on along cracks", 4, on.glide(0, WEST, 8));
        due("four cracks", 4, on.count(5));
    }

    private static void notCutBesideWater() {
        CarvedRinks c = new CarvedRinks();
        c.glide(0, SOUTH, 1);
        Ponds.holes(c, 1, 10);
        due("along both", 3, c.glide(0, EAST, 3));
        due("two ice cells", 1, c.line(0, 1, 1, 1));
        due("water north", 0, c.line(1, 1, 1, 1));
        due("water south", 0, c.line(2, 1, 1, 1));
        due("wear all the same", 1, c.line(1, 1, 1, 0));
        due("cut lines", 1, c.count(4));
    }

    private static void cutBesideLaterWater() {
        CarvedRinks c = Ponds.cornered();
        due("cut", 4, c.count(4));
        Ponds.holes(c, 9, 17);
        due("a line that is cut stays cut", 1, c.line(1, 2, 1, 1));
        due("in the count too", 4, c.count(4));
        CarvedRinks k = Ponds.cornered();
        k.set(1, 1);
        k.glide(0, EAST, 2);
        k.glide(0, NORTH, 2);
        due("four cracks", 4, k.count(5));
        due("cracked and cut, east", 1, k.line(0, 2, 1, 1));
        due("cracked and cut, south", 1, k.line(2, 0, 2, 1));
        due("cracked, in the count too", 4, k.count(4));
    }

    // ---- rinks that are parted

    private static void fewerCells() {
        CarvedRinks low = Ponds.cornered();
        due("4 cells with the lowest", 4, low.skater(0, 3));
        due("the corner", 0, low.cell(1, 1, 1));
        due("the rest", -1, low.cell(2, 2, 1));
        CarvedRinks high = new CarvedRinks();
        high.glide(1, WEST, 2);
        high.glide(1, SOUTH, 2);
        high.glide(1, EAST, 2);
        due("4 cells without the lowest", 4, high.skater(1, 3));
        due("the corner of skater 1", 1, high.cell(6, 1, 1));
        due("the rest of it", -1, high.cell(5, 1, 1));
        CarvedRinks one = new CarvedRinks();
        one.glide(2, NORTH, 1);
        one.glide(2, EAST, 1);
        due("not yet parted", 1, one.count(1));
        one.glide(2, SOUTH, 1);
        due("one cell", 1, one.skater(2, 3));
        due("which one", 2, one.cell(0, 7, 1));
        CarvedRinks less = new CarvedRinks();
        Ponds.holes(less, 0);
        less.glide(1, WEST, 4);
        less.glide(1, SOUTH, 8);
        due("31 beside 32", 31, less.skater(1, 3));
        due("the western part", 1, less.cell(3, 7, 1));
        CarvedRinks more = new CarvedRinks();
        Ponds.holes(more, 63);
        more.glide(1, WEST, 4);
        more.glide(1, SOUTH, 8);
        due("32 beside 31", 31, more.skater(1, 3));
        due("the eastern part", 1, more.cell(4, 0, 1));
    }

    private static void likeParts() {
        CarvedRinks c = Ponds.halved();
        due("32 and 32", 32, c.skater(0, 3));
        due("the one with cell 0", 0, c.cell(0, 0, 1));
        due("the other one", -1, c.cell(4, 0, 1));
        c.glide(1, WEST, 2);
        c.glide(1, SOUTH, 8);
        due("16 and 16", 16, c.skater(1, 3));
        due("the one with cell 4", 1, c.cell(4, 0, 1));
        due("the one with cell 6", -1, c.cell(6, 0, 1));
        CarvedRinks e = new CarvedRinks();
        e.glide(0, SOUTH, 3);
        e.glide(0, EAST, 4);
        e.glide(1, SOUTH, 5);
        e.glide(1, WEST, 4);
        e.glide(1, EAST, 1);
        due("one line is left", 1, e.glide(0, SOUTH, 1));
        due("still one rink", 1, e.count(1));
        e.glide(0, SOUTH, 1);
        due("the lowest cell east of the last line", 0, e.cell(4, 4, 1));
        due("its cell 0", 0, e.cell(0, 0, 1));
        due("like parts", 32, e.skater(0, 3));
        due("west of the last line", -1, e.cell(3, 4, 1));
        CarvedRinks s = new CarvedRinks();
        s.glide(0, EAST, 4);
        s.glide(0, SOUTH, 1);
        Ponds.leave(s, 5, 13, 12, 11, 10, 9);
        due("a path of 6 cells", 1, s.count(1));
        s.glide(0, SOUTH, 1);
        due("5 is below 9, though further east", 0, s.cell(5, 0, 1));
        due("the part with 9", -1, s.cell(1, 1, 1));
    }

    private static void onlyByACut() {
        CarvedRinks c = new CarvedRinks();
        c.glide(0, SOUTH, 1);
        c.glide(0, EAST, 1);
        Ponds.holes(c, 1);
        due("parted by water", 2, c.count(1));
        c.glide(0, WEST, 1);
        due("but along a line that was cut before", 0, c.skater(0, 3));
        due("owned by none", -1, c.cell(0, 0, 1));
        CarvedRinks w = new CarvedRinks();
        Ponds.holes(w, 1);
        w.glide(0, SOUTH, 1);
        due("still one rink", 1, w.count(1));
        w.glide(0, EAST, 1);
        due("parted by a cut beside water", 0, w.cell(0, 0, 1));
        due("one cell", 1, w.skater(0, 3));
        CarvedRinks n = new CarvedRinks();
        n.glide(0, EAST, 4);
        n.glide(0, SOUTH, 7);
        due("cuts that part nothing", 0, n.skater(0, 3));
        due("owned rinks", 0, n.count(3));
    }

    private static void ownedAlready() {
        CarvedRinks own = Ponds.halved();
        own.glide(0, WEST, 1);
        own.glide(0, NORTH, 8);
        due("its own rink, two parts", 2, own.skater(0, 5));
        due("all its cells", 32, own.skater(0, 3));
        due("the larger part", 0, own.cell(0, 0, 1));
        due("the smaller part", 0, own.cell(3, 0, 1));
        CarvedRinks other = Ponds.halved();
        other.glide(2, EAST, 2);
        other.glide(2, NORTH, 8);
        due("the rink of another, two parts", 2, other.skater(0, 5));
        due("all its cells still", 32, other.skater(0, 3));
        due("none for the one that cuts", 0, other.skater(2, 3));
        due("its rinks", 0, other.skater(2, 5));
    }

    private static void waterIsOwnedByNone() {
        CarvedRinks c = Ponds.cornered();
        c.set(1, 1);
        c.glide(0, EAST, 1);
        due("cracked", -1, c.cell(0, 1, 1));
        due("three cells", 3, c.skater(0, 3));
        due("in its rinks too", 3, c.skater(0, 4));
        c.hole(0, 0);
        due("a hole", -1, c.cell(0, 0, 1));
        due("two cells", 2, c.skater(0, 3));
        due("two in its rinks", 2, c.skater(0, 4));
        c.set(2, 1);
        c.thaw();
        due("thawed", 0, c.skater(0, 3));
        due("no rinks", 0, c.skater(0, 5));
        due("no cells of rinks", 0, c.skater(0, 4));
    }

    // ---- glide

    private static void upToSoManySteps() {
        for (int steps = 1; steps <= 8; steps++) {
            CarvedRinks c = new CarvedRinks();
            due("steps " + steps, steps, c.glide(1, SOUTH, steps));
            due("steps so far", steps, c.skater(1, 6));
            due("its y", steps, c.skater(1, 1));
        }
    }

    private static void stopsAhead() {
        CarvedRinks c = new CarvedRinks();
        due("of another skater", 7, c.glide(0, EAST, 8));
        due("steps so far", 7, c.skater(0, 6));
        due("of the edge", 8, c.glide(1, SOUTH, 8));
        Ponds.holes(c, 59, 51);
        c.glide(2, EAST, 2);
        due("of lines without ice", 1, c.glide(2, EAST, 6));
        due("its x", 3, c.skater(2, 0));
        due("and does not go on behind it", 0, c.glide(2, EAST, 6));
        due("steps of none", 3, c.skater(2, 6));
        CarvedRinks t = Ponds.halved();
        t.set(0, 7);
        t.glide(2, NORTH, 4);
        due("of a toll", 2, t.glide(2, EAST, 8));
        due("its x there", 2, t.skater(2, 0));
    }

    private static void undoableIfNoneIsMade() {
        CarvedRinks c = new CarvedRinks();
        due("none is made", 0, c.glide(0, NORTH, 8));
        due("saved", 1, c.count(11));
        due("and again", 0, c.glide(0, WEST, 1));
        due("saved, too", 2, c.count(11));
        due("undone", 1, c.undo());
        due("undone, too", 0, c.undo());
    }

    // ---- skaters

    private static void ownedCellsInTwoWays() {
        CarvedRinks c = Ponds.columned();
        int[][] numbers = {{32, 32, 1}, {8, 8, 1}, {0, 0, 0}};
        for (int skater = 0; skater < 3; skater++) {
            for (int what = 3; what <= 5; what++) {
                due("skater " + skater + ", " + what, numbers[skater][what - 3], c.skater(skater, what));
            }
        }
        CarvedRinks m = Ponds.carved();
        for (int what = 3; what <= 5; what++) {
            due("63 rinks, " + what, 63, m.skater(0, what));
        }
        Ponds.melt(m);
        for (int what = 3; what <= 5; what++) {
            due("no ice, " + what, 0, m.skater(0, what));
        }
    }

    // ---- what a glide would bring

    private static void ifGlidedSteps() {
        CarvedRinks c = new CarvedRinks();
        due("none", 0, c.ifGlided(0, NORTH, 8, 0));
        due("one", 1, c.ifGlided(0, EAST, 1, 0));
        due("fewer", 7, c.ifGlided(0, EAST, 8, 0));
        due("8", 8, c.ifGlided(1, SOUTH, 8, 0));
        CarvedRinks t = Ponds.halved();
        t.set(0, 9);
        t.glide(2, NORTH, 4);
        due("until the purse has less", 2, t.ifGlided(2, EAST, 8, 0));
    }

    private static void ifGlidedCells() {
        CarvedRinks c = new CarvedRinks();
        c.glide(0, EAST, 4);
        due("not yet", 0, c.ifGlided(0, SOUTH, 7, 1));
        due("a half", 32, c.ifGlided(0, SOUTH, 8, 1));
        due("of another nothing", 0, c.ifGlided(1, SOUTH, 8, 1));
        CarvedRinks w = Ponds.cornered();
        w.set(1, 1);
        due("one fewer", -1, w.ifGlided(0, EAST, 1, 1));
        due("two fewer", -2, w.ifGlided(0, EAST, 2, 1));
        due("none made, none more", 0, w.ifGlided(0, WEST, 8, 1));
    }

    private static void ifGlidedTolls() {
        CarvedRinks c = Ponds.halved();
        c.glide(2, NORTH, 4);
        due("four", 8, c.ifGlided(2, EAST, 4, 2));
        due("one", 2, c.ifGlided(2, EAST, 1, 2));
        due("at the edge", 0, c.ifGlided(2, NORTH, 4, 2));
        c.glide(2, EAST, 2);
        due("without those paid before", 4, c.ifGlided(2, EAST, 8, 2));
        due("the owner pays none", 0, c.ifGlided(0, WEST, 4, 2));
        c.set(0, 0);
        due("tolls of 0", 0, c.ifGlided(2, EAST, 2, 2));
    }

    private static void ifGlidedRinks() {
        CarvedRinks c = new CarvedRinks();
        due("at the edge", 1, c.ifGlided(0, EAST, 4, 3));
        c.glide(0, EAST, 4);
        due("parted", 2, c.ifGlided(0, SOUTH, 8, 3));
        due("not parted", 1, c.ifGlided(0, SOUTH, 7, 3));
        due("none made", 1, c.ifGlided(0, NORTH, 8, 3));
        CarvedRinks l = Ponds.onlyIce(0);
        l.set(1, 1);
        due("the last ice stays", 1, l.ifGlided(0, EAST, 1, 3));
        l.glide(0, EAST, 1);
        due("the last ice cracks", 0, l.ifGlided(0, WEST, 1, 3));
    }

    // ---- the best glide

    private static void bestOfOneToEightSteps() {
        CarvedRinks c = new CarvedRinks();
        c.glide(0, EAST, 4);
        due("8 steps south", 28, c.best(0));
        c.glide(2, EAST, 4);
        due("7 steps north bring nothing", 1, c.best(2));
        c.glide(0, WEST, 1);
        due("8 steps north, below 10", 8, c.best(2));
        CarvedRinks w = new CarvedRinks();
        w.glide(1, SOUTH, 4);
        due("8 steps west", 38, w.best(1));
        CarvedRinks e = new CarvedRinks();
        e.glide(0, SOUTH, 4);
        due("8 steps east", 18, e.best(0));
        CarvedRinks one = new CarvedRinks();
        one.glide(0, EAST, 1);
        one.glide(0, SOUTH, 1);
        due("east and west bring less than south", 27, one.best(0));
        one.glide(2, NORTH, 6);
        one.glide(2, EAST, 1);
        Ponds.holes(one, 1, 9);
        due("one step", 31, one.best(0));
    }

    private static void bestOfLikeOnes() {
        CarvedRinks c = new CarvedRinks();
        due("nothing to gain for 0", 11, c.best(0));
        due("nothing to gain for 1", 21, c.best(1));
        due("nothing to gain for 2", 1, c.best(2));
        CarvedRinks e = new CarvedRinks();
        e.glide(0, EAST, 4);
        e.glide(0, SOUTH, 4);
        Ponds.holes(e, 35, 36);
        due("west brings as much", 16, e.ifGlided(0, WEST, 4, 1));
        due("as east", 16, e.ifGlided(0, EAST, 4, 1));
        due("so east", 14, e.best(0));
    }

    private static void bestIsComplete() {
        CarvedRinks c = Ponds.cornered();
        c.set(1, 1);
        Ponds.holes(c, 8, 9, 1, 16);
        due("one cell is owned", 1, c.skater(0, 3));
        due("where it can not go", -1, c.best(0));
        CarvedRinks l = new CarvedRinks();
        l.glide(0, SOUTH, 1);
        l.glide(0, NORTH, 1);
        l.glide(0, EAST, 1);
        l.glide(0, SOUTH, 1);
        l.glide(0, WEST, 1);
        l.set(1, 1);
        Ponds.holes(l, 8, 1, 9);
        due("a loss north", -1, l.ifGlided(0, NORTH, 1, 1));
        due("a loss east", -1, l.ifGlided(0, EAST, 1, 1));
        due("no step south", 0, l.ifGlided(0, SOUTH, 1, 0));
        due("no gain for no step south", 0, l.ifGlided(0, SOUTH, 1, 1));
        due("but only complete glides count", 1, l.best(0));
        CarvedRinks t = Ponds.halved();
        t.set(0, 9);
        t.glide(2, NORTH, 4);
        due("the purse is too low for three", 0, t.ifGlided(2, EAST, 3, 1));
        due("so north", 1, t.best(2));
    }

    private static void bestOfNone() {
        CarvedRinks c = new CarvedRinks();
        c.glide(1, WEST, 7);
        c.glide(2, NORTH, 7);
        due("between two others", -1, c.best(0));
        CarvedRinks w = new CarvedRinks();
        Ponds.holes(w, 0);
        due("beside water", -1, w.best(0));
        CarvedRinks p = drained();
        due("with an empty purse", -1, p.best(2));
        p.pay(2, 8);
        due("with too little", -1, p.best(2));
        p.pay(2, 1);
        due("with enough for one toll", 17, p.best(2));
    }

    public static void main(String[] args) {
        Sentences s = SENTENCES;
        s.test("2 glide",
                "A skater glides in a direction, 0 north, 1 east, 2 south, 3 west, step by step; a "
                        + "step leads along a line to the next point.",
                GlideBoundariesTest::directions);
        s.test("20 why", "1: there is no point there;", GlideBoundariesTest::noPoint);
        s.test("20 why", "2: another skater is at that point;", GlideBoundariesTest::anotherSkater);
        s.test("20 why", "3: no cell beside the line is ice;", GlideBoundariesTest::noIceBeside);
        s.test("20 why", "4: there is a toll, and the purse has less.", GlideBoundariesTest::purseHasLess);
        s.test("20 why",
                "A step can not be made for the first of these reasons that is so:",
                GlideBoundariesTest::firstReason);
        s.test("2 glide",
                "There is a toll for a line with two cells beside it that are ice,",
                GlideBoundariesTest::tollLines);
        s.test("2 glide", "and owned by the same other skater:", GlideBoundariesTest::tollOfTheSame);
        s.test("2 glide",
                "setting 0, which goes from the purse of the one to that of the other.",
                GlideBoundariesTest::tollGoesFromOneToTheOther);
        s.test("16 skater", "7: tolls paid so far; 8: tolls got so far", GlideBoundariesTest::tollsSoFar);
        s.test("6 set", "0: the toll, 0 to 9,", GlideBoundariesTest::tollOfNothing);
        s.test("2 glide",
                "A step brings, in this order: 1. the toll is paid;",
                GlideBoundariesTest::tollAheadOfTheCrack);
        s.test("2 glide",
                "2. the wear of the line becomes 1 more; 3. if the wear is above setting 1 then, the "
                        + "line cracks:",
                GlideBoundariesTest::wearAboveTheSetting);
        s.test("2 glide", "the ice cells beside it become water;", GlideBoundariesTest::cracksToWater);
        s.test("2 glide",
                "otherwise, if the line has two ice cells beside it and is not cut, it is cut now.",
                GlideBoundariesTest::notCutBesideWater);
        s.test("18 count", "4: lines that are cut;", GlideBoundariesTest::cutBesideLaterWater);
        s.test("2 glide", "if none owned it, the part with fewer cells,", GlideBoundariesTest::fewerCells);
        s.test("2 glide",
                "of two like ones that with the lowest cell, is owned by the skater now;",
                GlideBoundariesTest::likeParts);
        s.test("2 glide",
                "4. If by a cut the two cells beside the line are in one rink no more, that rink is "
                        + "parted:",
                GlideBoundariesTest::onlyByACut);
        s.test("2 glide",
                "if somebody owned it, both parts are still owned so.",
                GlideBoundariesTest::ownedAlready);
        s.test("16 skater",
                "Cells that become water are owned by none.",
                GlideBoundariesTest::waterIsOwnedByNone);
        s.test("2 glide", "Lets a skater glide, up to so many steps;", GlideBoundariesTest::upToSoManySteps);
        s.test("2 glide",
                "it stops ahead of the first one that can not be made.",
                GlideBoundariesTest::stopsAhead);
        s.test("2 glide", "Undoable, also if none is made.", GlideBoundariesTest::undoableIfNoneIsMade);
        s.test("16 skater",
                "3: cells that it owns, told cell by cell; 4: cells that it owns, told as the cells "
                        + "of its rinks; 5: its rinks;",
                GlideBoundariesTest::ownedCellsInTwoWays);
        s.test("21 ifGlided", "0: how many steps would be made;", GlideBoundariesTest::ifGlidedSteps);
        s.test("21 ifGlided",
                "1: by how many cells more the skater would own (below 0 if fewer);",
                GlideBoundariesTest::ifGlidedCells);
        s.test("21 ifGlided", "2: the tolls that it would pay;", GlideBoundariesTest::ifGlidedTolls);
        s.test("21 ifGlided", "3: how many rinks there would be", GlideBoundariesTest::ifGlidedRinks);
        s.test("22 best",
                "Returns 10 times the direction and the steps, 1 to 8, of the glide by which it "
                        + "would own the most cells more,",
                GlideBoundariesTest::bestOfOneToEightSteps);
        s.test("22 best", "of several the one with the least number;", GlideBoundariesTest::bestOfLikeOnes);
        s.test("22 best", "only glides in which all steps would be made;", GlideBoundariesTest::bestIsComplete);
        s.test("22 best", "NONE if there is none.", GlideBoundariesTest::bestOfNone);
        s.end();
    }
}
