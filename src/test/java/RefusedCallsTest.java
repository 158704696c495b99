/** Each sentence that names an exception, the order of several, and calls that change nothing. */
public final class RefusedCallsTest {
    private static final Sentences SENTENCES = new Sentences();
    private static final int[] NO_SKATERS = Ponds.beyond(0, 2);
    private static final int[] NO_DIRECTIONS = Ponds.beyond(0, 3);
    private static final int[] NO_STEPS = Ponds.beyond(1, 8);

    private static void index(String what, Sentences.Use use) {
        SENTENCES.refused("IndexOutOfBoundsException", what, Ponds::busy, use);
    }

    private static void argument(String what, Sentences.Use use) {
        SENTENCES.refused("IllegalArgumentException", what, Ponds::busy, use);
    }

    private static void looks(String what, Sentences.Use use) {
        SENTENCES.harmless(what, Ponds::busy, use);
    }

    /** A pond with as much filled into its purses as may be. */
    private static CarvedRinks rich() {
        CarvedRinks c = new CarvedRinks();
        for (int times = 0; times < 100; times++) {
            c.pay(0, 99);
        }
        c.pay(0, 39);
        return c;
    }

    // ---- skaters

    private static void glideOfNoSkater() {
        for (int wrong : NO_SKATERS) {
            for (int direction : new int[] {-1, 0, 3, 4}) {
                for (int steps : new int[] {0, 1, 8, 9}) {
                    index(wrong + " " + direction + " " + steps, c -> c.glide(wrong, direction, steps));
                }
            }
        }
    }

    private static void glideOutOfRange() {
        for (int skater = 0; skater < 3; skater++) {
            int s = skater;
            for (int wrong : NO_DIRECTIONS) {
                argument(s + ", direction " + wrong, c -> c.glide(s, wrong, 1));
                argument(s + ", direction " + wrong + ", no steps", c -> c.glide(s, wrong, 0));
                argument(s + ", direction " + wrong + ", 9 steps", c -> c.glide(s, wrong, 9));
            }
            for (int wrong : NO_STEPS) {
                argument(s + ", steps " + wrong, c -> c.glide(s, 0, wrong));
                argument(s + ", steps " + wrong + ", west", c -> c.glide(s, 3, wrong));
            }
        }
    }

    private static void holeOfNoCell() {
        for (int wrong : Ponds.beyond(0, 7)) {
            for (int other : new int[] {-1, 0, 6, 7, 8}) {
                index("x " + wrong + " " + other, c -> c.hole(wrong, other));
                index("y " + wrong + " " + other, c -> c.hole(other, wrong));
            }
        }
        Sentences.Pond noIce = Ponds::onlyIce;
        SENTENCES.refused("IndexOutOfBoundsException", "no ice", noIce, c -> c.hole(8, 0));
        SENTENCES.refused("IndexOutOfBoundsException", "no ice", noIce, c -> c.hole(0, -1));
        SENTENCES.refused("IllegalStateException", "no ice", noIce, c -> c.hole(0, 0));
    }

    private static void payOfNoSkater() {
        for (int wrong : NO_SKATERS) {
            for (int coins : new int[] {0, 1, 99, 100}) {
                index(wrong + " " + coins, c -> c.pay(wrong, coins));
            }
            SENTENCES.refused("IndexOutOfBoundsException", wrong + ", ahead of too much", RefusedCallsTest::rich,
                    c -> c.pay(wrong, 99));
        }
    }

    private static void payOutOfRange() {
        for (int wrong : Ponds.beyond(1, 99)) {
            for (int skater = 0; skater < 3; skater++) {
                int s = skater;
                argument(s + " " + wrong, c -> c.pay(s, wrong));
            }
            SENTENCES.refused("IllegalArgumentException", wrong + ", ahead of too much", RefusedCallsTest::rich,
                    c -> c.pay(0, wrong));
        }
        argument("no coins", c -> c.pay(0, 0));
        SENTENCES.refused("IllegalArgumentException", "no coins, ahead of too much", RefusedCallsTest::rich,
                c -> c.pay(0, 0));
        SENTENCES.refused("IllegalStateException", "too much", RefusedCallsTest::rich, c -> c.pay(0, 1));
    }

    private static void setOfNoSetting() {
        for (int wrong : NO_SKATERS) {
            for (int value : new int[] {-1, 0, 1, 4, 10}) {
                index(wrong + " " + value, c -> c.set(wrong, value));
            }
        }
    }

    private static void noSuchSetting() {
        for (int wrong : NO_SKATERS) {
            index("setting " + wrong, c -> c.setting(wrong));
        }
    }

    // ---- looks

    private static void cellOfNoCell() {
        for (int wrong : Ponds.beyond(0, 7)) {
            for (int other : new int[] {-1, 0, 7, 8}) {
                for (int what : new int[] {-1, 0, 5, 6}) {
                    index("x " + wrong + " " + other + " " + what, c -> c.cell(wrong, other, what));
                    index("y " + wrong + " " + other + " " + what, c -> c.cell(other, wrong, what));
                }
            }
        }
    }

    private static void cellOfNoWhat() {
        for (int wrong : Ponds.beyond(0, 5)) {
            argument("ice, what " + wrong, c -> c.cell(0, 0, wrong));
            argument("the last cell, what " + wrong, c -> c.cell(7, 7, wrong));
            argument("water, what " + wrong, c -> c.cell(6, 6, wrong));
        }
    }

    private static void lineOfNoPoint() {
        for (int wrong : Ponds.beyond(0, 8)) {
            for (int direction = 0; direction <= 3; direction++) {
                int d = direction;
                for (int what : new int[] {-1, 0, 3}) {
                    index("x " + wrong + " " + d + " " + what, c -> c.line(wrong, 0, d, what));
                    index("y " + wrong + " " + d + " " + what, c -> c.line(0, wrong, d, what));
                    index("both " + wrong + " " + d + " " + what, c -> c.line(wrong, wrong, d, what));
                }
            }
        }
        for (int what : Ponds.beyond(0, 2)) {
            index("no line east, what " + what, c -> c.line(8, 0, 1, what));
            index("no line south, what " + what, c -> c.line(0, 8, 2, what));
            index("no line at the last point, what " + what, c -> c.line(8, 8, 1, what));
        }
    }

    private static void lineOfNoDirection() {
        for (int wrong : Ponds.beyond(1, 2)) {
            for (int point : new int[] {0, 8}) {
                argument("direction " + wrong, c -> c.line(point, 0, wrong, 0));
                argument("direction " + wrong, c -> c.line(point, 8, wrong, 2));
            }
        }
        for (int wrong : Ponds.beyond(0, 2)) {
            argument("what " + wrong, c -> c.line(0, 0, 1, wrong));
            argument("what " + wrong, c -> c.line(8, 7, 2, wrong));
            argument("what " + wrong + ", no direction", c -> c.line(0, 0, 0, wrong));
        }
    }

    private static void skaterOfNoSkater() {
        for (int wrong : NO_SKATERS) {
            for (int what : new int[] {-1, 0, 8, 9}) {
                index(wrong + " " + what, c -> c.skater(wrong, what));
            }
        }
    }

    private static void skaterOfNoWhat() {
        for (int wrong : Ponds.beyond(0, 8)) {
            argument("0, what " + wrong, c -> c.skater(0, wrong));
            argument("2, what " + wrong, c -> c.skater(2, wrong));
        }
    }

    private static void rinkBelowZero() {
        for (int wrong : new int[] {-1, -2, -64, -65536, Ponds.LEAST}) {
            for (int what : new int[] {-1, 0, 2, 3}) {
                index(wrong + " " + what, c -> c.rink(wrong, what));
            }
        }
    }

    private static void rinkOfNoWhat() {
        for (int wrong : Ponds.beyond(0, 2)) {
            for (int rank : new int[] {0, 2, 3, 64, Ponds.MOST}) {
                argument(rank + ", what " + wrong, c -> c.rink(rank, wrong));
            }
        }
    }

    private static void countOfNoWhat() {
        for (int wrong : Ponds.beyond(0, 11)) {
            argument("what " + wrong, c -> c.count(wrong));
        }
    }

    private static void whyOfNoSkater() {
        for (int wrong : NO_SKATERS) {
            for (int direction : new int[] {-1, 0, 3, 4}) {
                index(wrong + " " + direction, c -> c.why(wrong, direction));
            }
        }
    }

    private static void whyOutOfRange() {
        for (int wrong : NO_DIRECTIONS) {
            argument("0, direction " + wrong, c -> c.why(0, wrong));
            argument("2, direction " + wrong, c -> c.why(2, wrong));
        }
    }

    // ---- what would be

    private static void ifGlidedOfNoSkater() {
        for (int wrong : NO_SKATERS) {
            for (int what : new int[] {-1, 0, 3, 4}) {
                index(wrong + " " + what, c -> c.ifGlided(wrong, 0, 1, what));
                index(wrong + " " + what + ", no direction", c -> c.ifGlided(wrong, 4, 1, what));
                index(wrong + " " + what + ", no steps", c -> c.ifGlided(wrong, 0, 0, what));
            }
        }
    }

    private static void ifGlidedOutOfRange() {
        for (int what = 0; what <= 3; what++) {
            int w = what;
            for (int wrong : NO_DIRECTIONS) {
                argument("direction " + wrong + ", " + w, c -> c.ifGlided(0, wrong, 1, w));
            }
            for (int wrong : NO_STEPS) {
                argument("steps " + wrong + ", " + w, c -> c.ifGlided(2, 0, wrong, w));
            }
        }
        for (int wrong : Ponds.beyond(0, 3)) {
            argument("what " + wrong, c -> c.ifGlided(1, 0, 8, wrong));
            argument("what " + wrong + ", no steps", c -> c.ifGlided(1, 0, 9, wrong));
        }
    }

    private static void bestOfNoSkater() {
        for (int wrong : NO_SKATERS) {
            index("skater " + wrong, c -> c.best(wrong));
        }
    }

    // ---- several exceptions, and what is in range

    private static void namedFirst() {
        index("glide", c -> c.glide(3, 4, 9));
        index("pay, of three", c -> c.pay(3, 100));
        SENTENCES.refused("IndexOutOfBoundsException", "pay, of all three", RefusedCallsTest::rich, c -> c.pay(-1, 0));
        SENTENCES.refused("IllegalArgumentException", "pay, of two", RefusedCallsTest::rich, c -> c.pay(2, 100));
        index("set", c -> c.set(3, 10));
        SENTENCES.refused("IllegalArgumentException", "append", () -> Ponds.written("t".repeat(60)), c -> c.append(32));
        index("cell", c -> c.cell(8, 8, 6));
        index("line, no point", c -> c.line(9, 9, 3, 3));
        index("line, no line", c -> c.line(8, 8, 2, 3));
        argument("line, no direction and so no line to miss", c -> c.line(8, 8, 3, 3));
        index("skater", c -> c.skater(3, 9));
        index("rink", c -> c.rink(-1, 3));
        index("why", c -> c.why(3, 4));
        index("ifGlided", c -> c.ifGlided(3, 4, 9, 4));
    }

    /** One call of each method that may be refused; each is refused. */
    private static long allRefused(CarvedRinks c) {
        Check.Call[] calls = {() -> c.glide(0, 0, 9), () -> c.hole(6, 6), () -> c.hole(8, 6), () -> c.pay(0, 100),
            () -> c.set(0, 10), () -> c.append(127), c::play, () -> c.cell(0, 0, 6), () -> c.line(0, 0, 1, 3),
            () -> c.skater(0, 9), () -> c.rink(0, 3), () -> c.count(12), () -> c.setting(3), () -> c.why(0, 4),
            () -> c.ifGlided(0, 0, 1, 4), () -> c.best(3)};
        for (Check.Call call : calls) {
            SENTENCES.dueText("refused", "throws.", Check.answerOf(call).substring(0, 7));
        }
        return calls.length;
    }

    private static void refusedChangesNothing() {
        looks("once", RefusedCallsTest::allRefused);
        looks("twenty times", c -> {
            long sum = 0;
            for (int times = 0; times < 20; times++) {
                sum += allRefused(c);
            }
            return sum;
        });
    }

    private static void glidesInRange() {
        for (int skater = 0; skater < 3; skater++) {
            for (int direction = 0; direction < 4; direction++) {
                for (int steps = 1; steps <= 8; steps++) {
                    CarvedRinks c = new CarvedRinks();
                    int foretold = c.ifGlided(skater, direction, steps, 0);
                    SENTENCES.due(skater + " " + direction + " " + steps, foretold, c.glide(skater, direction, steps));
                    SENTENCES.due("saved", 1, c.count(11));
                }
            }
        }
    }

    // ---- nothing is changed

    private static long allCells(CarvedRinks c) {
        long sum = 0;
        for (int at = 0; at < 384; at++) {
            sum += c.cell(at % 8, at / 8 % 8, at / 64);
        }
        return sum;
    }

    private static long allLines(CarvedRinks c) {
        long sum = 0;
        for (int what = 0; what <= 2; what++) {
            for (int at = 0; at < 72; at++) {
                sum += c.line(at % 8, at / 8, 1, what) + c.line(at % 9, at / 9, 2, what);
            }
        }
        return sum;
    }

    private static long allSkatersAndRinks(CarvedRinks c) {
        long sum = 0;
        for (int what = 0; what <= 11; what++) {
            sum += c.count(what);
        }
        for (int three = 0; three < 3; three++) {
            sum += c.setting(three);
            for (int what = 0; what <= 8; what++) {
                sum += c.skater(three, what);
            }
            for (int rank = 0; rank <= 64; rank++) {
                sum += c.rink(rank, three);
            }
            for (int direction = 0; direction < 4; direction++) {
                sum += c.why(three, direction);
            }
        }
        return sum;
    }

    private static void looksChangeNothing() {
        looks("all cells", RefusedCallsTest::allCells);
        looks("all lines", RefusedCallsTest::allLines);
        looks("all else", RefusedCallsTest::allSkatersAndRinks);
    }

    private static long allGlides(CarvedRinks c) {
        long sum = 0;
        for (int at = 0; at < 384; at++) {
            sum += c.ifGlided(at % 3, at / 3 % 4, 1 + at / 12 % 8, at / 96);
        }
        return sum;
    }

    private static long allElse(CarvedRinks c) {
        long sum = c.best(0) + c.best(1) + c.best(2) + c.calm() + c.firstError();
        return sum + (long) c.ownedShare() + (long) c.meanRink() + c.digest();
    }

    private static void whatWouldBeChangesNothing() {
        looks("all glides", RefusedCallsTest::allGlides);
        looks("all else", RefusedCallsTest::allElse);
        Sentences.Pond brittle = () -> {
            CarvedRinks c = Ponds.busy();
            c.set(1, 1);
            c.set(2, 1);
            return c;
        };
        SENTENCES.harmless("all glides, with cracks", brittle, RefusedCallsTest::allGlides);
        SENTENCES.harmless("all else, with thaws", brittle, RefusedCallsTest::allElse);
        SENTENCES.harmless("all cells, with thaws", brittle, RefusedCallsTest::allCells);
    }

    public static void main(String[] args) {
        Sentences s = SENTENCES;
        s.test("2 glide",
                "Throws `IndexOutOfBoundsException` if there is no such skater",
                RefusedCallsTest::glideOfNoSkater);
        s.test("2 glide",
                "Throws `IllegalArgumentException` if direction or steps is out of range",
                RefusedCallsTest::glideOutOfRange);
        s.test("4 hole",
                "Throws `IndexOutOfBoundsException` if there is no such cell",
                RefusedCallsTest::holeOfNoCell);
        s.test("5 pay",
                "Throws `IndexOutOfBoundsException` if there is no such skater",
                RefusedCallsTest::payOfNoSkater);
        s.test("5 pay",
                "Throws `IllegalArgumentException` if coins is out of range",
                RefusedCallsTest::payOutOfRange);
        s.test("6 set",
                "Throws `IndexOutOfBoundsException` if there is no such setting",
                RefusedCallsTest::setOfNoSetting);
        s.test("14 cell",
                "Throws `IndexOutOfBoundsException` if there is no such cell",
                RefusedCallsTest::cellOfNoCell);
        s.test("14 cell",
                "Throws `IllegalArgumentException` if what is not 0 to 5",
                RefusedCallsTest::cellOfNoWhat);
        s.test("15 line",
                "Throws `IndexOutOfBoundsException` if there is no such point, or, with the "
                        + "direction 1 or 2, no such line",
                RefusedCallsTest::lineOfNoPoint);
        s.test("15 line",
                "Throws `IllegalArgumentException` if direction is not 1 or 2, or what is not 0 to 2",
                RefusedCallsTest::lineOfNoDirection);
        s.test("16 skater",
                "Throws `IndexOutOfBoundsException` if there is no such skater",
                RefusedCallsTest::skaterOfNoSkater);
        s.test("16 skater",
                "Throws `IllegalArgumentException` if what is not 0 to 8",
                RefusedCallsTest::skaterOfNoWhat);
        s.test("17 rink",
                "Throws `IndexOutOfBoundsException` if rank is below 0",
                RefusedCallsTest::rinkBelowZero);
        s.test("17 rink",
                "Throws `IllegalArgumentException` if what is not 0 to 2",
                RefusedCallsTest::rinkOfNoWhat);
        s.test("18 count",
                "Throws `IllegalArgumentException` if what is not 0 to 11",
                RefusedCallsTest::countOfNoWhat);
        s.test("19 setting",
                "Throws `IndexOutOfBoundsException` if there is no such setting",
                RefusedCallsTest::noSuchSetting);
        s.test("20 why",
                "Throws `IndexOutOfBoundsException` if there is no such skater",
                RefusedCallsTest::whyOfNoSkater);
        s.test("20 why",
                "Throws `IllegalArgumentException` if direction is out of range",
                RefusedCallsTest::whyOutOfRange);
        s.test("21 ifGlided",
                "Throws `IndexOutOfBoundsException` if there is no such skater",
                RefusedCallsTest::ifGlidedOfNoSkater);
        s.test("21 ifGlided",
                "Throws `IllegalArgumentException` if direction, steps or what is out of range",
                RefusedCallsTest::ifGlidedOutOfRange);
        s.test("22 best",
                "Throws `IndexOutOfBoundsException` if there is no such skater",
                RefusedCallsTest::bestOfNoSkater);
        s.test("2 to 22",
                "If several exceptions apply, the one that is named first in the throws clause is "
                        + "thrown.",
                RefusedCallsTest::namedFirst);
        s.test("2 to 22",
                "A call that throws an exception changes nothing.",
                RefusedCallsTest::refusedChangesNothing);
        s.test("2 glide",
                "- `skater`: 0 to 2 - `direction`: 0 to 3 - `steps`: 1 to 8",
                RefusedCallsTest::glidesInRange);
        s.test("14 to 20", "---- looks; nothing is changed.", RefusedCallsTest::looksChangeNothing);
        s.test("21 to 26",
                "---- what would be; nothing is changed.",
                RefusedCallsTest::whatWouldBeChangesNothing);
        s.end();
    }
}
