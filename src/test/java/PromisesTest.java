/** Each promise of the document by itself: ordinary inputs, the edges it names, wrong inputs. */
public final class PromisesTest {
    private static final int LEAST = Ponds.LEAST;
    private static final int MOST = Ponds.MOST;
    private static final int NORTH = Ponds.NORTH;
    private static final int EAST = Ponds.EAST;
    private static final int SOUTH = Ponds.SOUTH;
    private static final int WEST = Ponds.WEST;

    private static final Check CHECK = new Check();

    private static void due(String what, long due, long got) {
        CHECK.same(what, due, got);
    }

    private static void newObject() {
        CarvedRinks c = new CarvedRinks();
        int[] counts = {64, 1, 1, 0, 0, 0, 0, 0, 60, 60, 64, 0};
        for (int what = 0; what < counts.length; what++) {
            due("1: count(" + what + ") of a new object", counts[what], c.count(what));
        }
        int[][] places = {{0, 0}, {8, 0}, {0, 8}};
        for (int skater = 0; skater < 3; skater++) {
            int[] numbers = {places[skater][0], places[skater][1], 20, 0, 0, 0, 0, 0, 0};
            for (int what = 0; what < numbers.length; what++) {
                due("1: skater(" + skater + ", " + what + ")", numbers[what], c.skater(skater, what));
            }
        }
        due("1: setting 0", 2, c.setting(0));
        due("1: setting 1", 3, c.setting(1));
        due("1: setting 2", 2, c.setting(2));
        due("1: buffer", 0, c.clearBuffer());
        CHECK.throwsState("1: no snapshot", c::goBack);
        CHECK.throwsState("1: no saved state", c::undo);
        due("1: NONE", -1, CarvedRinks.NONE);
    }

    private static void glideStops() {
        CarvedRinks c = new CarvedRinks();
        due("2: off the pond", 0, c.glide(0, NORTH, 1));
        due("2: undoable, also if none is made", 1, c.count(11));
        due("2: to the edge", 8, c.glide(1, SOUTH, 8));
        due("2: ahead of another skater", 7, c.glide(0, SOUTH, 8));
        due("2: beside another skater", 0, c.glide(0, SOUTH, 8));
        due("2: its place", 7, c.skater(0, 1));
        due("2: up to so many", 3, c.glide(0, EAST, 3));
        due("2: steps so far", 10, c.skater(0, 6));
        c.hole(4, 6);
        c.hole(4, 7);
        due("2: ahead of water", 1, c.glide(0, EAST, 2));
        due("2: along water with ice beside", 1, c.glide(0, NORTH, 1));
        due("2: three steps west", 3, c.glide(0, WEST, 3));
    }

    private static void glideCuts() {
        CarvedRinks c = new CarvedRinks();
        c.glide(0, EAST, 8);
        due("2: a line at the edge is not cut", 0, c.count(4));
        due("2: ahead of skater 1", 7, c.skater(0, 0));
        c.glide(0, SOUTH, 1);
        due("2: a cut", 1, c.line(7, 0, SOUTH, 1));
        due("2: a cut that does not part", 1, c.count(1));
        c.glide(0, EAST, 1);
        due("2: a cut that parts", 2, c.count(1));
        due("2: the part with fewer cells", 0, c.cell(7, 0, 1));
        due("2: the other part", -1, c.cell(6, 0, 1));
        c.glide(1, WEST, 1);
        c.hole(3, 4);
        c.glide(2, EAST, 3);
        c.glide(2, NORTH, 4);
        due("2: no cut beside water", 0, c.line(3, 4, SOUTH, 1));
        due("2: but wear", 1, c.line(3, 4, SOUTH, 0));
        due("2: a cut beside ice", 1, c.line(3, 5, SOUTH, 1));
    }

    private static void glideOwns() {
        CarvedRinks c = Ponds.halved();
        due("2: of like parts that with the lowest cell", 32, c.skater(0, 3));
        due("2: the western part", 0, c.cell(3, 7, 1));
        due("2: the eastern part", -1, c.cell(4, 0, 1));
        CarvedRinks e = new CarvedRinks();
        e.glide(1, WEST, 2);
        e.glide(1, SOUTH, 2);
        e.glide(1, EAST, 2);
        due("2: the part with fewer cells, without cell 0", 4, e.skater(1, 3));
        due("2: the corner", 1, e.cell(7, 1, 1));
        c.glide(2, NORTH, 4);
        due("2: through the rink of another", 4, c.glide(2, EAST, 4));
        due("2: parted", 3, c.count(1));
        due("2: both parts are still owned so", 32, c.skater(0, 3));
        due("2: two rinks", 2, c.skater(0, 5));
        due("2: none for the cutter", 0, c.skater(2, 3));
        CarvedRinks w = new CarvedRinks();
        w.set(1, 1);
        w.glide(1, WEST, 4);
        w.hole(4, 1);
        w.hole(4, 3);
        w.hole(3, 2);
        w.hole(5, 2);
        due("2: parted by water", 2, w.count(1));
        due("2: but owned by none", -1, w.cell(4, 2, 1));
    }

    private static void glideTolls() {
        CarvedRinks c = Ponds.halved();
        c.glide(2, NORTH, 4);
        due("2: no toll at the edge", 20, c.skater(2, 2));
        c.set(0, 9);
        due("2: the purse has less", 2, c.glide(2, EAST, 4));
        due("2: the purse", 2, c.skater(2, 2));
        due("2: the other purse", 38, c.skater(0, 2));
        due("2: tolls paid", 18, c.skater(2, 7));
        due("2: tolls got", 18, c.skater(0, 8));
        c.pay(2, 7);
        due("2: the purse has as much", 1, c.glide(2, EAST, 4));
        due("2: an empty purse", 0, c.skater(2, 2));
        c.set(0, 0);
        due("2: a toll of 0", 1, c.glide(2, EAST, 1));
        c.glide(2, WEST, 2);
        c.hole(1, 4);
        c.set(0, 9);
        due("2: no toll along water", 1, c.glide(2, WEST, 1));
        CarvedRinks o = Ponds.halved();
        o.glide(0, WEST, 2);
        due("2: in its own rink", 3, o.glide(0, NORTH, 3));
        due("2: no toll there", 0, o.skater(0, 7));
        CarvedRinks b = Ponds.halved();
        b.glide(1, WEST, 3);
        b.glide(1, SOUTH, 8);
        due("2: skater 1 owns a part", 8, b.skater(1, 3));
        due("2: back", 8, b.glide(1, NORTH, 8));
        b.glide(1, WEST, 1);
        due("2: no toll along a border", 7, b.glide(1, SOUTH, 7));
        due("2: no toll along a border", 20, b.skater(1, 2));
    }

    private static void glideCracks() {
        CarvedRinks c = new CarvedRinks();
        c.glide(0, SOUTH, 1);
        c.glide(0, EAST, 1);
        c.glide(0, WEST, 1);
        c.glide(0, EAST, 1);
        due("2: three times", 3, c.line(0, 1, EAST, 0));
        due("2: as much as it bears", 64, c.count(0));
        due("2: back", 1, c.glide(0, WEST, 1));
        due("2: the cells beside it are water", 62, c.count(0));
        due("2: cell 0", 0, c.cell(0, 0, 0));
        due("2: cell 8", 0, c.cell(0, 1, 0));
        due("2: cracked", 1, c.count(5));
        due("2: became water", 2, c.count(7));
        due("2: cut it stays", 1, c.line(0, 1, EAST, 1));
        due("2: the wear counts on", 4, c.line(0, 1, EAST, 0));
        due("2: no ice beside", 3, c.why(0, EAST));
        CarvedRinks o = Ponds.cornered();
        o.set(1, 1);
        due("2: a step that cracks a line is made", 1, o.glide(0, EAST, 1));
        due("2: water is owned by none", 3, o.skater(0, 3));
        CarvedRinks b = new CarvedRinks();
        b.set(1, 1);
        b.glide(0, SOUTH, 1);
        b.glide(0, NORTH, 1);
        due("2: a line at the edge cracks", 63, b.count(0));
        CarvedRinks p = Ponds.halved();
        p.set(1, 1);
        p.glide(2, EAST, 3);
        p.glide(2, NORTH, 1);
        due("2: the toll is paid ahead of the crack", 2, p.skater(2, 7));
        p.glide(2, SOUTH, 1);
        due("2: and again", 4, p.skater(2, 7));
        due("2: and it cracks", 0, p.line(3, 7, SOUTH, 2));
    }

    private static void glideWrong() {
        CarvedRinks c = new CarvedRinks();
        for (int wrong : new int[] {-1, 3, LEAST, MOST}) {
            CHECK.throwsIndex("2: skater " + wrong, () -> c.glide(wrong, 0, 1));
        }
        for (int wrong : new int[] {-1, 4, LEAST, MOST}) {
            CHECK.throwsArgument("2: direction " + wrong, () -> c.glide(0, wrong, 1));
        }
        for (int wrong : new int[] {-1, 0, 9, LEAST, MOST}) {
            CHECK.throwsArgument("2: steps " + wrong, () -> c.glide(0, 0, wrong));
        }
        CHECK.throwsIndex("2: all wrong", () -> c.glide(3, 4, 0));
        due("2: nothing is saved", 0, c.count(11));
    }

    private static void thaw() {
        CarvedRinks c = new CarvedRinks();
        due("3: nothing thaws", 0, c.thaw());
        due("3: but it is counted", 1, c.count(6));
        due("3: and undoable", 1, c.count(11));
        c.hole(1, 0);
        c.hole(0, 1);
        due("3: (0, 0) and (1, 1)", 2, c.thaw());
        due("3: (0, 0)", 0, c.cell(0, 0, 0));
        due("3: (1, 1)", 0, c.cell(1, 1, 0));
        due("3: a square of water does not grow", 0, c.thaw());
        due("3: became water", 4, c.count(7));
        due("3: thaws", 3, c.count(6));
        CarvedRinks o = new CarvedRinks();
        o.set(2, 1);
        o.hole(3, 3);
        due("3: all at once", 4, o.thaw());
        due("3: all at once", 8, o.thaw());
        CarvedRinks d = Ponds.cornered();
        d.set(2, 1);
        d.hole(2, 0);
        due("3: over a cut", 3, d.thaw());
        due("3: over a cut", 0, d.cell(1, 0, 0));
        due("3: owned by none", 3, d.skater(0, 3));
        CarvedRinks t = new CarvedRinks();
        t.hole(2, 3);
        t.hole(4, 3);
        t.hole(3, 2);
        t.set(2, 4);
        due("3: three of four", 0, t.thaw());
        t.set(2, 3);
        due("3: three of three", 1, t.thaw());
        CarvedRinks f = new CarvedRinks();
        f.set(2, 4);
        f.hole(1, 0);
        f.hole(0, 1);
        due("3: the edge is no water", 0, f.thaw());
        f.hole(2, 1);
        f.hole(1, 2);
        due("3: four of four", 1, f.thaw());
        CarvedRinks w = new CarvedRinks();
        w.set(2, 1);
        w.hole(7, 3);
        due("3: rows do not go on at the other edge", 3, w.thaw());
        due("3: (0, 4)", 1, w.cell(0, 4, 0));
    }

    private static void hole() {
        CarvedRinks c = Ponds.cornered();
        due("4: owned by none", -1, c.hole(5, 5));
        due("4: owned", 0, c.hole(1, 1));
        due("4: became water", 2, c.count(7));
        due("4: three left", 3, c.skater(0, 3));
        CHECK.throwsState("4: water", () -> c.hole(1, 1));
        for (int wrong : new int[] {-1, 8, LEAST, MOST}) {
            CHECK.throwsIndex("4: x " + wrong, () -> c.hole(wrong, 0));
            CHECK.throwsIndex("4: y " + wrong, () -> c.hole(0, wrong));
        }
        due("4: undo", 4, c.undo());
        due("4: undone", 0, c.cell(1, 1, 1));
    }

    private static void pay() {
        CarvedRinks c = new CarvedRinks();
        due("5: 20 and 1", 21, c.pay(1, 1));
        due("5: 21 and 99", 120, c.pay(1, 99));
        due("5: count(8)", 160, c.count(8));
        due("5: count(9)", 160, c.count(9));
        for (int wrong : new int[] {-1, 3, LEAST, MOST}) {
            CHECK.throwsIndex("5: skater " + wrong, () -> c.pay(wrong, 0));
        }
        for (int wrong : new int[] {-1, 0, 100, LEAST, MOST}) {
            CHECK.throwsArgument("5: coins " + wrong, () -> c.pay(0, wrong));
        }
        for (int times = 0; times < 99; times++) {
            c.pay(0, 99);
        }
        due("5: count(9)", 9961, c.count(9));
        CHECK.throwsState("5: 10000", () -> c.pay(2, 39));
        CHECK.throwsArgument("5: too many coins first", () -> c.pay(2, 100));
        due("5: 9999", 58, c.pay(2, 38));
        CHECK.throwsState("5: no more", () -> c.pay(2, 1));
        due("5: count(9)", 9999, c.count(9));
        c.undo();
        due("5: undone", 9961, c.count(9));
        due("5: undone", 20, c.skater(2, 2));
    }

    private static void set() {
        CarvedRinks c = new CarvedRinks();
        int[] first = {2, 3, 2};
        int[] least = {0, 1, 1};
        int[] most = {9, 9, 4};
        for (int setting = 0; setting < 3; setting++) {
            int s = setting;
            CHECK.throwsArgument("6: too low", () -> c.set(s, least[s] - 1));
            CHECK.throwsArgument("6: too high", () -> c.set(s, most[s] + 1));
            CHECK.throwsArgument("6: far too low", () -> c.set(s, LEAST));
            CHECK.throwsArgument("6: far too high", () -> c.set(s, MOST));
            due("6: the previous value", first[s], c.set(s, least[s]));
            due("6: the least", least[s], c.set(s, most[s]));
            due("6: the most", most[s], c.setting(s));
        }
        for (int wrong : new int[] {-1, 3, LEAST, MOST}) {
            CHECK.throwsIndex("6: setting " + wrong, () -> c.set(wrong, -1));
            CHECK.throwsIndex("19: setting " + wrong, () -> c.setting(wrong));
        }
        due("6: the same again", 4, c.set(2, 4));
        due("6: is saved too", 6, c.count(11));
        c.undo();
        c.undo();
        due("6: undone", 1, c.setting(2));
    }

    private static void append() {
        CarvedRinks c = new CarvedRinks();
        for (int wrong : new int[] {32, 127, 0, -1, LEAST, MOST}) {
            CHECK.throwsArgument("7: code " + wrong, () -> c.append(wrong));
        }
        due("7: the least", 1, c.append(33));
        due("7: the most", 2, c.append(126));
        for (int length = 3; length <= 60; length++) {
            due("7: length", length, c.append('t'));
        }
        CHECK.throwsState("7: full", () -> c.append('t'));
        CHECK.throwsArgument("7: the code first", () -> c.append(127));
        due("7: not undoable", 0, c.count(11));
        due("8: the length that it had", 60, c.clearBuffer());
        due("8: cleared", 0, c.clearBuffer());
        due("8: from the start", 1, c.append('t'));
        due("8: not undoable", 0, c.count(11));
    }

    private static void firstError() {
        String[] good = {"", "t", "0", "0n", "2w8", "1e1;", "t;t", "0s4;1w4;t;2n1", "t;1"};
        for (String text : good) {
            due("9: " + text, text.length(), Ponds.written(text).firstError());
        }
        String[] bad = {";", "3", "n", "T", "0N", "0x", "00", "0t", "0n0", "0n9", "0n;", "0n1n", "tt",
            "0n12", "t;;", "t;n", "0n1;3", "0n1;0e1;t0", "/", "0n:", "0n/"};
        for (String text : bad) {
            due("9: " + text, text.length() - 1, Ponds.written(text).firstError());
            due("9: " + text + " and more", text.length() - 1, Ponds.written(text + ";t").firstError());
        }
        CarvedRinks full = Ponds.written("t;t;t;t;t;t;t;t;t;t;t;t;t;t;t;t;t;t;t;t;t;t;t;t;t;t;t;t;t;t;");
        due("9: of any length", 60, full.firstError());
    }

    private static void play() {
        CarvedRinks c = Ponds.written("0e2;0s2;0w2");
        due("10: steps", 6, c.play());
        due("10: the corner", 4, c.skater(0, 3));
        due("10: cleared", 0, c.clearBuffer());
        due("10: one call", 1, c.count(11));
        due("10: undone as one", 0, c.undo());
        due("10: undone as one", 0, c.skater(0, 6));
        due("10: the buffer is not undone", 0, c.clearBuffer());
        CarvedRinks d = Ponds.written("0n1;0e1;t");
        due("10: ends behind the first that makes fewer", 0, d.play());
        due("10: cleared all the same", 0, d.clearBuffer());
        due("10: undoable all the same", 1, d.count(11));
        CarvedRinks e = Ponds.written("2e3;1n1;t");
        due("10: the steps before", 3, e.play());
        due("10: no thaw behind it", 0, e.count(6));
        CarvedRinks f = Ponds.written("1w8;t");
        due("10: those of it, too", 7, f.play());
        due("10: no thaw behind it", 0, f.count(6));
        CarvedRinks t = Ponds.written("t;1s1;t");
        t.hole(1, 0);
        t.hole(0, 1);
        due("10: thaws make no steps", 1, t.play());
        due("10: two thaws", 2, t.count(6));
        due("10: as thaw() does", 4, t.count(7));
        for (String text : new String[] {"", "0", "0n", "t;", "0n1;", "x", "t;x", "0n1;3n1", "tt"}) {
            CarvedRinks w = Ponds.written(text);
            CHECK.throwsArgument("10: " + text, w::play);
            due("10: the buffer stays", text.length(), w.clearBuffer());
            due("10: nothing is saved", 0, w.count(11));
        }
    }

    private static void snapshot() {
        CarvedRinks c = Ponds.cornered();
        c.set(0, 5);
        c.hole(7, 7);
        Ponds.write(c, "0n");
        due("11: ice", 63, c.keep());
        due("11: not undoable", 5, c.count(11));
        c.glide(1, SOUTH, 3);
        c.set(0, 7);
        c.pay(2, 3);
        c.thaw();
        c.hole(0, 0);
        due("12: ice", 63, c.goBack());
        due("12: settings", 5, c.setting(0));
        due("12: purses", 20, c.skater(2, 2));
        due("12: filled", 60, c.count(9));
        due("12: thaws", 0, c.count(6));
        due("12: places", 0, c.skater(1, 1));
        due("12: owners", 0, c.cell(0, 0, 1));
        due("12: lines", 0, c.line(8, 0, SOUTH, 0));
        due("12: not the saved states", 6, c.count(11));
        due("12: not the buffer", 2, c.firstError());
        due("12: undoable", 5, c.undo());
        due("12: undone", 7, c.setting(0));
        due("12: it stays", 63, c.goBack());
        c.hole(1, 1);
        due("12: again", 63, c.goBack());
        due("11: another", 63, c.keep());
        c.hole(1, 1);
        due("11: in place of the one", 62, c.keep());
        c.undo();
        due("12: the later one", 62, c.goBack());
        CarvedRinks n = new CarvedRinks();
        CHECK.throwsState("12: no snapshot", n::goBack);
        due("12: nothing is saved", 0, n.count(11));
    }

    private static void undo() {
        CarvedRinks c = new CarvedRinks();
        CHECK.throwsState("13: none", c::undo);
        for (int coins = 1; coins <= 8; coins++) {
            c.pay(0, coins);
        }
        due("13: at most 6", 6, c.count(11));
        for (int left = 5; left >= 0; left--) {
            due("13: left", left, c.undo());
        }
        due("13: the oldest ones are dropped", 23, c.skater(0, 2));
        CHECK.throwsState("13: none is left", c::undo);
        c.glide(0, EAST, 2);
        c.glide(0, SOUTH, 2);
        c.glide(0, WEST, 2);
        long before = c.digest();
        c.keep();
        c.glide(0, EAST, 1);
        due("13: left", 3, c.undo());
        due("13: not the snapshot", 1, c.digest() - before == 0 ? 0 : 1);
        due("13: left", 2, c.undo());
        due("13: owners", -1, c.cell(0, 0, 1));
        due("13: lines", 0, c.line(0, 2, EAST, 1));
        due("13: the snapshot stays", 64, c.goBack());
        due("13: the snapshot stays", 4, c.skater(0, 3));
    }

    private static void cell() {
        CarvedRinks c = Ponds.cornered();
        c.hole(4, 4);
        c.hole(5, 5);
        int[] owned = {1, 0, 0, 4, 0, -1};
        int[] free = {1, -1, 2, 58, 2, 1};
        int[] water = {0, -1, -1, 0, 0, 0};
        for (int what = 0; what <= 5; what++) {
            due("14: owned, " + what, owned[what], c.cell(1, 1, what));
            due("14: free, " + what, free[what], c.cell(4, 5, what));
            due("14: water, " + what, water[what], c.cell(5, 5, what));
        }
        for (int wrong : new int[] {-1, 8, LEAST, MOST}) {
            CHECK.throwsIndex("14: x " + wrong, () -> c.cell(wrong, 0, -1));
            CHECK.throwsIndex("14: y " + wrong, () -> c.cell(0, wrong, 6));
        }
        for (int wrong : new int[] {-1, 6, LEAST, MOST}) {
            CHECK.throwsArgument("14: what " + wrong, () -> c.cell(0, 0, wrong));
        }
        CarvedRinks t = new CarvedRinks();
        t.set(2, 1);
        t.hole(0, 0);
        due("14: behind 14 thaws", 14, t.cell(7, 7, 5));
        due("14: behind 1", 1, t.cell(0, 1, 5));
        t.thaw();
        due("14: behind 13", 13, t.cell(7, 7, 5));
        due("14: nothing is changed", 61, t.count(0));
    }

    private static void line() {
        CarvedRinks c = Ponds.cornered();
        c.hole(0, 0);
        int[][] dues = {{2, 0, SOUTH, 1, 1, 2}, {0, 2, EAST, 1, 1, 2}, {0, 1, EAST, 0, 0, 1},
            {0, 0, EAST, 1, 0, 0}, {1, 0, EAST, 1, 0, 1}, {8, 7, SOUTH, 0, 0, 1}, {7, 8, EAST, 0, 0, 1}};
        for (int[] d : dues) {
            for (int what = 0; what <= 2; what++) {
                due("15: line " + d[0] + " " + d[1] + " " + d[2] + " " + what, d[3 + what],
                        c.line(d[0], d[1], d[2], what));
            }
        }
        for (int wrong : new int[] {-1, 9, LEAST, MOST}) {
            CHECK.throwsIndex("15: x " + wrong, () -> c.line(wrong, 0, 0, 0));
            CHECK.throwsIndex("15: y " + wrong, () -> c.line(0, wrong, 1, 3));
        }
        CHECK.throwsIndex("15: no line east", () -> c.line(8, 0, EAST, 0));
        CHECK.throwsIndex("15: no line south", () -> c.line(0, 8, SOUTH, -1));
        CHECK.throwsArgument("15: a point without such a line, but no direction", () -> c.line(8, 8, 0, 0));
        for (int wrong : new int[] {-1, 0, 3, LEAST, MOST}) {
            CHECK.throwsArgument("15: direction " + wrong, () -> c.line(0, 0, wrong, 0));
            int what = wrong == 0 ? 4 : wrong;
            CHECK.throwsArgument("15: what " + what, () -> c.line(0, 0, EAST, what));
        }
    }

    private static void skater() {
        CarvedRinks c = Ponds.halved();
        c.glide(2, NORTH, 4);
        c.glide(2, EAST, 4);
        int[] numbers = {4, 8, 28, 32, 32, 2, 12, 0, 8};
        int[] others = {4, 4, 12, 0, 0, 0, 8, 8, 0};
        for (int what = 0; what <= 8; what++) {
            due("16: skater 0, " + what, numbers[what], c.skater(0, what));
            due("16: skater 2, " + what, others[what], c.skater(2, what));
        }
        for (int wrong : new int[] {-1, 3, LEAST, MOST}) {
            CHECK.throwsIndex("16: skater " + wrong, () -> c.skater(wrong, 9));
        }
        for (int wrong : new int[] {-1, 9, LEAST, MOST}) {
            CHECK.throwsArgument("16: what " + wrong, () -> c.skater(0, wrong));
        }
    }

    private static void rink() {
        CarvedRinks c = Ponds.halved();
        c.glide(2, NORTH, 4);
        c.glide(2, EAST, 4);
        int[][] rinks = {{0, 16, 0}, {4, 32, -1}, {32, 16, 0}, {-1, -1, -1}};
        for (int rank = 0; rank < 4; rank++) {
            for (int what = 0; what <= 2; what++) {
                due("17: rink " + rank + ", " + what, rinks[rank][what], c.rink(rank, what));
            }
        }
        due("17: far above", -1, c.rink(MOST, 0));
        CHECK.throwsIndex("17: below 0", () -> c.rink(-1, 3));
        CHECK.throwsIndex("17: far below 0", () -> c.rink(LEAST, 0));
        for (int wrong : new int[] {-1, 3, LEAST, MOST}) {
            CHECK.throwsArgument("17: what " + wrong, () -> c.rink(MOST, wrong));
        }
        Ponds.melt(c);
        due("17: without ice", -1, c.rink(0, 0));
        CarvedRinks s = new CarvedRinks();
        for (int cell = 0; cell < 64; cell++) {
            if ((cell % 8 + cell / 8) % 2 == 0) {
                s.hole(cell % 8, cell / 8);
            }
        }
        due("17: single cells", 63 - 1, s.rink(31, 0));
        due("17: single cells", -1, s.rink(32, 0));
        due("18: single cells", 32, s.count(1));
        due("18: single cells", 32, s.count(2));
    }

    private static void count() {
        CarvedRinks c = Ponds.halved();
        c.glide(2, NORTH, 4);
        c.glide(2, EAST, 4);
        c.pay(1, 5);
        c.hole(7, 7);
        c.hole(7, 5);
        c.thaw();
        c.set(1, 1);
        c.glide(1, SOUTH, 1);
        c.glide(1, NORTH, 1);
        int[] numbers = {60, 3, 3, 2, 12, 1, 1, 4, 65, 65, 28, 6};
        for (int what = 0; what <= 11; what++) {
            due("18: count(" + what + ")", numbers[what], c.count(what));
        }
        for (int wrong : new int[] {-1, 12, LEAST, MOST}) {
            CHECK.throwsArgument("18: what " + wrong, () -> c.count(wrong));
        }
        Ponds.melt(c);
        int[] none = {0, 0, 0, 0, 12, 1, 1, 64, 65, 65, 0, 6};
        for (int what = 0; what <= 11; what++) {
            due("18: without ice, count(" + what + ")", none[what], c.count(what));
        }
    }

    private static void why() {
        CarvedRinks c = new CarvedRinks();
        int[][] reasons = {{1, 0, 0, 1}, {1, 1, 0, 0}, {0, 0, 1, 1}};
        for (int skater = 0; skater < 3; skater++) {
            for (int direction = 0; direction < 4; direction++) {
                due("20: skater " + skater + ", " + direction, reasons[skater][direction], c.why(skater, direction));
            }
        }
        c.glide(2, NORTH, 7);
        due("20: taken", 2, c.why(0, SOUTH));
        c.hole(0, 0);
        due("20: taken ahead of no ice", 2, c.why(0, SOUTH));
        due("20: no ice", 3, c.why(0, EAST));
        CarvedRinks t = Ponds.halved();
        t.glide(2, NORTH, 4);
        t.set(0, 9);
        t.glide(2, EAST, 2);
        due("20: the purse has less", 4, t.why(2, EAST));
        t.pay(2, 6);
        due("20: by one", 4, t.why(2, EAST));
        t.pay(2, 1);
        due("20: it has as much", 0, t.why(2, EAST));
        due("20: not saved", 6, t.count(11));
        for (int wrong : new int[] {-1, 3, LEAST, MOST}) {
            CHECK.throwsIndex("20: skater " + wrong, () -> c.why(wrong, 4));
        }
        for (int wrong : new int[] {-1, 4, LEAST, MOST}) {
            CHECK.throwsArgument("20: direction " + wrong, () -> c.why(0, wrong));
        }
    }

    private static void ifGlided() {
        CarvedRinks c = new CarvedRinks();
        c.glide(0, EAST, 2);
        c.glide(0, SOUTH, 2);
        long before = c.digest();
        int[] all = {2, 4, 0, 2};
        int[] off = {2, 0, 0, 1};
        for (int what = 0; what <= 3; what++) {
            due("21: closing, " + what, all[what], c.ifGlided(0, WEST, 5, what));
            due("21: back, " + what, off[what], c.ifGlided(0, NORTH, 2, what));
        }
        due("21: nothing is changed", 0, c.digest() - before);
        CarvedRinks t = Ponds.halved();
        t.glide(2, NORTH, 4);
        int[] toll = {4, 0, 8, 3};
        for (int what = 0; what <= 3; what++) {
            due("21: tolls, " + what, toll[what], t.ifGlided(2, EAST, 4, what));
        }
        t.glide(2, EAST, 2);
        due("21: only the tolls of this glide", 4, t.ifGlided(2, EAST, 2, 2));
        CarvedRinks w = Ponds.cornered();
        w.set(1, 1);
        due("21: fewer cells", -1, w.ifGlided(0, EAST, 1, 1));
        due("21: fewer cells", -2, w.ifGlided(0, EAST, 2, 1));
        for (int wrong : new int[] {-1, 3, LEAST, MOST}) {
            CHECK.throwsIndex("21: skater " + wrong, () -> c.ifGlided(wrong, 4, 0, 4));
        }
        for (int wrong : new int[] {-1, 4, LEAST, MOST}) {
            CHECK.throwsArgument("21: direction " + wrong, () -> c.ifGlided(0, wrong, 1, 0));
            CHECK.throwsArgument("21: what " + wrong, () -> c.ifGlided(0, 0, 1, wrong));
        }
        for (int wrong : new int[] {-1, 0, 9, LEAST, MOST}) {
            CHECK.throwsArgument("21: steps " + wrong, () -> c.ifGlided(0, 0, wrong, 0));
        }
    }

    private static void best() {
        CarvedRinks c = new CarvedRinks();
        due("22: nothing to gain, the least number", 11, c.best(0));
        due("22: nothing to gain, the least number", 21, c.best(1));
        due("22: nothing to gain, the least number", 1, c.best(2));
        c.glide(0, EAST, 2);
        c.glide(0, SOUTH, 2);
        due("22: the most cells", 26, c.best(0));
        c.hole(1, 7);
        c.hole(2, 7);
        due("22: only glides that end where they should", 25, c.best(0));
        c.hole(2, 1);
        c.hole(2, 2);
        c.hole(1, 2);
        due("22: west is left", 32, c.best(0));
        CarvedRinks w = new CarvedRinks();
        w.hole(0, 0);
        due("22: none", -1, w.best(0));
        CarvedRinks l = new CarvedRinks();
        l.glide(0, SOUTH, 1);
        l.glide(0, NORTH, 1);
        l.glide(0, EAST, 1);
        l.glide(0, SOUTH, 1);
        l.glide(0, WEST, 1);
        l.set(1, 1);
        due("22: the other side of the line", 18, l.best(0));
        l.hole(0, 1);
        l.hole(1, 0);
        l.hole(1, 1);
        due("22: the corner is owned", 1, l.skater(0, 3));
        due("22: north is a loss", -1, l.ifGlided(0, NORTH, 1, 1));
        due("22: east is a loss", -1, l.ifGlided(0, EAST, 1, 1));
        due("22: of like losses that with the least number", 1, l.best(0));
        for (int wrong : new int[] {-1, 3, LEAST, MOST}) {
            CHECK.throwsIndex("22: skater " + wrong, () -> c.best(wrong));
        }
    }

    private static void calm() {
        CarvedRinks c = new CarvedRinks();
        due("23: at first", 0, c.calm());
        c.set(2, 1);
        due("23: no water", 0, c.calm());
        c.hole(0, 0);
        due("23: from the corner", 14, c.calm());
        c.thaw();
        due("23: one less", 13, c.calm());
        c.undo();
        c.undo();
        c.hole(3, 3);
        due("23: from the middle", 8, c.calm());
        c.set(2, 2);
        due("23: one hole", 0, c.calm());
        c.hole(4, 4);
        due("23: two holes", 1, c.calm());
        due("23: nothing is changed", 62, c.count(0));
    }

    private static void shares() {
        CarvedRinks c = Ponds.halved();
        CHECK.same("24: a half", Double.doubleToLongBits(0.5), Double.doubleToLongBits(c.ownedShare()));
        CHECK.same("25: two rinks", Float.floatToIntBits(32.0f), Float.floatToIntBits(c.meanRink()));
        c.hole(0, 0);
        c.glide(2, NORTH, 4);
        c.glide(2, EAST, 4);
        CHECK.same("24: 31 of 63", Double.doubleToLongBits(31.0 / 63.0), Double.doubleToLongBits(c.ownedShare()));
        c.hole(7, 7);
        CHECK.same("25: 62 in 3", Float.floatToIntBits(62.0f / 3.0f), Float.floatToIntBits(c.meanRink()));
        Ponds.melt(c);
        CHECK.same("24: without ice", 0L, Double.doubleToRawLongBits(c.ownedShare()));
        CHECK.same("25: without ice", 0, Float.floatToRawIntBits(c.meanRink()));
    }

    /** The whole list of values is compared in ComparedRunsTest; here is what it must tell apart. */
    private static void digest() {
        long first = new CarvedRinks().digest();
        due("26: the same again", 0, first - new CarvedRinks().digest());
        CarvedRinks c = new CarvedRinks();
        c.keep();
        due("26: the snapshot", 1, differs(first, c.digest()));
        CarvedRinks b = Ponds.written("t");
        long t = b.digest();
        due("26: the buffer", 1, differs(first, t));
        b.clearBuffer();
        due("26: the buffer cleared", 0, differs(first, b.digest()));
        b.append('u');
        due("26: another character", 1, differs(t, b.digest()));
        b.clearBuffer();
        b.set(0, 2);
        due("26: saved states", 1, differs(first, b.digest()));
        b.undo();
        due("26: undone", 0, differs(first, b.digest()));
    }

    private static int differs(long one, long other) {
        return one == other ? 0 : 1;
    }

    public static void main(String[] args) {
        newObject();
        glideStops();
        glideCuts();
        glideOwns();
        glideTolls();
        glideCracks();
        glideWrong();
        thaw();
        hole();
        pay();
        set();
        append();
        firstError();
        play();
        snapshot();
        undo();
        cell();
        line();
        skater();
        rink();
        count();
        why();
        ifGlided();
        best();
        calm();
        shares();
        digest();
        CHECK.end();
    }
}
