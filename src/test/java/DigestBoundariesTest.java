/** The hash of the document's list, made from the public answers, at the bounds of the state. */
public final class DigestBoundariesTest {
    private static final Sentences SENTENCES = new Sentences();

    private long hash = 3727;

    private void add(long value) {
        hash = 31 * hash + value;
    }

    /** Each part of the list is read off an object of its own, for an object has 512 calls alone. */
    private static long listed(Sentences.Pond pond, boolean snapshot, String buffer) {
        DigestBoundariesTest list = new DigestBoundariesTest();
        CarvedRinks c = pond.made();
        for (int what = 0; what <= 11; what++) {
            list.add(c.count(what));
        }
        for (int setting = 0; setting <= 2; setting++) {
            list.add(c.setting(setting));
        }
        list.addCells(pond.made());
        list.addLines(pond.made());
        list.addSkaters(pond.made());
        list.addRinks(pond.made());
        list.add(c.calm());
        list.add(Double.doubleToLongBits(c.ownedShare()));
        list.add(Float.floatToIntBits(c.meanRink()));
        list.add(snapshot ? 1 : 0);
        list.add(buffer.length());
        for (char sign : buffer.toCharArray()) {
            list.add(sign);
        }
        return list.hash;
    }

    private void addCells(CarvedRinks c) {
        for (int cell = 0; cell < 64; cell++) {
            for (int what = 0; what <= 5; what++) {
                add(c.cell(cell % 8, cell / 8, what));
            }
        }
    }

    private void addLines(CarvedRinks c) {
        for (int y = 0; y <= 8; y++) {
            for (int x = 0; x <= 8; x++) {
                for (int what = 0; what <= 2 && x < 8; what++) {
                    add(c.line(x, y, 1, what));
                }
                for (int what = 0; what <= 2 && y < 8; what++) {
                    add(c.line(x, y, 2, what));
                }
            }
        }
    }

    private void addSkaters(CarvedRinks c) {
        for (int skater = 0; skater <= 2; skater++) {
            for (int what = 0; what <= 8; what++) {
                add(c.skater(skater, what));
            }
            for (int direction = 0; direction <= 3; direction++) {
                add(c.why(skater, direction));
            }
            add(c.best(skater));
        }
    }

    private void addRinks(CarvedRinks c) {
        for (int rank = 0; c.rink(rank, 0) != CarvedRinks.NONE; rank++) {
            for (int what = 0; what <= 2; what++) {
                add(c.rink(rank, what));
            }
        }
    }

    private static void dueDigest(String what, Sentences.Pond pond, boolean snapshot, String buffer) {
        SENTENCES.due(what, listed(pond, snapshot, buffer), pond.made().digest());
    }

    private static void wholeList() {
        dueDigest("a new object", CarvedRinks::new, false, "");
        dueDigest("halves", Ponds::halved, false, "");
        dueDigest("something of everything", Ponds::busy, true, "0n");
        dueDigest("a worn corner", () -> {
            CarvedRinks c = Ponds.cornered();
            c.set(1, 1);
            c.glide(0, Ponds.EAST, 1);
            c.set(2, 1);
            c.thaw();
            return c;
        }, false, "");
    }

    private static void forEachRink() {
        dueDigest("no rink", Ponds::onlyIce, false, "");
        dueDigest("one cell", () -> Ponds.onlyIce(63), false, "");
        dueDigest("64 rinks", Ponds::carved, false, "");
        dueDigest("owned ones alone", () -> {
            CarvedRinks c = Ponds.cornered();
            Ponds.leave(c, 0, 1, 8, 9);
            return c;
        }, false, "");
    }

    private static void snapshotOrNot() {
        Sentences.Pond kept = () -> {
            CarvedRinks c = new CarvedRinks();
            c.keep();
            return c;
        };
        dueDigest("a snapshot", kept, true, "");
        dueDigest("two snapshots", () -> {
            CarvedRinks c = kept.made();
            c.keep();
            return c;
        }, true, "");
        dueDigest("a snapshot gone back to", () -> {
            CarvedRinks c = kept.made();
            c.goBack();
            return c;
        }, true, "");
    }

    private static void lengthAndCodes() {
        for (String text : new String[] {"!", "~", "t", "!~", "~!", "0e1;t", "x".repeat(60)}) {
            dueDigest("\"" + text + "\"", () -> Ponds.written(text), false, text);
        }
        dueDigest("a cleared buffer", () -> {
            CarvedRinks c = Ponds.written("abc");
            c.clearBuffer();
            return c;
        }, false, "");
        dueDigest("written anew", () -> {
            CarvedRinks c = Ponds.written("abc");
            c.clearBuffer();
            c.append('d');
            return c;
        }, false, "d");
    }

    public static void main(String[] args) {
        Sentences s = SENTENCES;
        s.test("26 digest",
                "For each value v of the following list, in order, the hash becomes 31 * hash + v, "
                        + "in long arithmetic with overflow.",
                DigestBoundariesTest::wholeList);
        s.test("26 digest", "for each rink its numbers 0 to 2;", DigestBoundariesTest::forEachRink);
        s.test("26 digest", "1 if there is a snapshot, otherwise 0;", DigestBoundariesTest::snapshotOrNot);
        s.test("26 digest",
                "the length of the buffer and each of its character codes.",
                DigestBoundariesTest::lengthAndCodes);
        s.end();
    }
}
