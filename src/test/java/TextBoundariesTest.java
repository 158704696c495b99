/** The boundary cases that the document names of the buffer and of glides as a text. */
public final class TextBoundariesTest {
    private static final Sentences SENTENCES = new Sentences();

    private static void due(String what, long due, long got) {
        SENTENCES.due(what, due, got);
    }

    private static CarvedRinks full() {
        return Ponds.written("t;".repeat(30));
    }

    /** Behind a good text each character is a syntax error but for some. */
    private static void dueGood(String before, String good) {
        for (int code = 33; code <= 126; code++) {
            CarvedRinks c = Ponds.written(before);
            c.append(code);
            boolean stands = good.indexOf(code) >= 0;
            due("'" + (char) code + "' behind \"" + before + "\"", before.length() + (stands ? 1 : 0), c.firstError());
        }
    }

    private static void dueRefusedToPlay(String text) {
        SENTENCES.refused("IllegalArgumentException", "\"" + text + "\"", () -> Ponds.written(text), CarvedRinks::play);
    }

    // ---- the buffer

    private static void codes() {
        for (int code = 33; code <= 126; code++) {
            due("code " + code, 1, new CarvedRinks().append(code));
        }
        for (int wrong : Ponds.beyond(33, 126)) {
            SENTENCES.refused("IllegalArgumentException", "code " + wrong, Ponds::busy, c -> c.append(wrong));
        }
        SENTENCES.refused("IllegalArgumentException", "a blank", CarvedRinks::new, c -> c.append(32));
        SENTENCES.refused("IllegalArgumentException", "code 127", CarvedRinks::new, c -> c.append(127));
        SENTENCES.refused("IllegalArgumentException", "code 0", CarvedRinks::new, c -> c.append(0));
    }

    private static void atMostSixty() {
        CarvedRinks c = new CarvedRinks();
        for (int length = 1; length <= 60; length++) {
            due("the new length", length, c.append('x'));
        }
        SENTENCES.refused("IllegalStateException", "the 61st", TextBoundariesTest::full, f -> f.append('t'));
        SENTENCES.refused("IllegalArgumentException", "the 61st, of a wrong code", TextBoundariesTest::full,
                f -> f.append(127));
        due("the length that it had", 60, c.clearBuffer());
        due("room again", 1, c.append('t'));
        due("one alone", 1, c.firstError());
        due("to play", 0, c.play());
        due("nothing is left", 0, c.clearBuffer());
    }

    private static void clearedLength() {
        CarvedRinks c = new CarvedRinks();
        due("empty", 0, c.clearBuffer());
        due("still empty", 0, c.clearBuffer());
        c.append('t');
        due("one", 1, c.clearBuffer());
        due("empty then", 0, c.clearBuffer());
        due("not saved", 0, c.count(11));
        due("no error", 0, c.firstError());
    }

    // ---- syntax

    private static void parts() {
        dueGood("", "012t");
        dueGood("0", "nesw");
        dueGood("2", "nesw");
        dueGood("0n", "12345678");
        dueGood("1e", "12345678");
        dueGood("2s", "12345678");
        dueGood("0w", "12345678");
        dueGood("0n1", ";");
        dueGood("2w8", ";");
        dueGood("t", ";");
        dueGood("t;", "012t");
        dueGood("1s4;", "012t");
        dueGood("t;t;2", "nesw");
        dueGood("0e1;2n", "12345678");
        dueGood("0e1;2n5", ";");
    }

    private static void ofAnyLength() {
        due("60, and a part would follow", 60, Ponds.written("0e1;".repeat(15)).firstError());
        due("60, and steps would follow", 60, Ponds.written("t;".repeat(29) + "0e").firstError());
        due("59, and a direction would follow", 59, Ponds.written("t;".repeat(29) + "0").firstError());
        due("59, and a part might follow", 59, Ponds.written("0e1;".repeat(14) + "0e1").firstError());
        due("60, and the last one is an error", 59, Ponds.written("0e1;".repeat(14) + "0e1x").firstError());
        due("60, and the last one is an error, too", 59, Ponds.written("t;".repeat(29) + "tt").firstError());
    }

    private static void firstErrorOfAll() {
        due("none in an empty buffer", 0, new CarvedRinks().firstError());
        due("the first character", 0, Ponds.written("x").firstError());
        due("behind it all may be good", 0, Ponds.written("x;t;0e1").firstError());
        due("two errors", 1, Ponds.written("0x9;y").firstError());
        due("the last character", 6, Ponds.written("0e1;2s9").firstError());
        due("no error though incomplete", 2, Ponds.written("0e").firstError());
        due("no error though incomplete behind a part", 4, Ponds.written("0e1;").firstError());
        due("two marks between", 4, Ponds.written("0e1;;t").firstError());
        due("a mark ahead", 0, Ponds.written(";t").firstError());
        due("steps of two digits", 3, Ponds.written("0e10").firstError());
        CarvedRinks c = Ponds.written("0e");
        c.firstError();
        due("the buffer stays", 3, c.append('9'));
        due("then", 2, c.firstError());
    }

    // ---- play

    private static void notComplete() {
        for (String text : new String[] {"", "0", "0e", "0e1;", "t;", "0e1;2", "0e1;2n", "x", "tx", "0e1x", "t;x",
            "0e1;3n1", "tt", ";", "0e0", "0e9", ";t", "0e1;;t", "0e12", "t;".repeat(30)}) {
            dueRefusedToPlay(text);
        }
        CarvedRinks c = Ponds.written("0e");
        SENTENCES.dueText("refused", "throws.IllegalArgumentException", Check.answerOf(c::play));
        due("the buffer stays", 3, c.append('4'));
        due("complete by now", 4, c.play());
        due("cleared", 0, c.clearBuffer());
    }

    private static void longestText() {
        CarvedRinks c = Ponds.written("1s1;".repeat(8) + "1w1;".repeat(6) + "1w1");
        due("15 glides", 15, c.play());
        due("steps so far", 15, c.skater(1, 6));
        CarvedRinks t = Ponds.written("t;".repeat(29) + "t");
        due("30 thaws make no steps", 0, t.play());
        due("thaws", 30, t.count(6));
        due("saved", 1, t.count(11));
    }

    private static void partByPart() {
        CarvedRinks c = Ponds.written("0e2;0s2;0w2");
        due("steps", 6, c.play());
        due("the corner", 4, c.skater(0, 3));
        CarvedRinks t = Ponds.written("t;1s2;t");
        Ponds.holes(t, 1, 8);
        due("steps alone", 2, t.play());
        due("two thaws", 2, t.count(6));
        due("as thaw() does", 4, t.count(7));
        String directions = "nesw";
        int[][] ends = {{4, 3}, {5, 4}, {4, 5}, {3, 4}};
        for (int direction = 0; direction < 4; direction++) {
            CarvedRinks d = Ponds.written("2e4;2n4;2" + directions.charAt(direction) + "1");
            due("steps, " + direction, 9, d.play());
            due("x, " + direction, ends[direction][0], d.skater(2, 0));
            due("y, " + direction, ends[direction][1], d.skater(2, 1));
        }
        due("8 steps", 8, Ponds.written("1s8").play());
    }

    private static void endsBehindFewerSteps() {
        CarvedRinks none = Ponds.written("0n1;t;0e1");
        due("none of 1", 0, none.play());
        due("no thaw", 0, none.count(6));
        due("no further glide", 0, none.skater(0, 0));
        due("the buffer is cleared", 0, none.clearBuffer());
        due("saved", 1, none.count(11));
        CarvedRinks fewer = Ponds.written("0e3;0e5;0s1;t");
        due("3 of 3 and 4 of 5", 7, fewer.play());
        due("its x", 7, fewer.skater(0, 0));
        due("no further glide then", 0, fewer.skater(0, 1));
        due("no thaw then", 0, fewer.count(6));
        due("the buffer is cleared then", 0, fewer.clearBuffer());
        CarvedRinks last = Ponds.written("0e1;0n1");
        due("the last one makes none", 1, last.play());
        CarvedRinks all = Ponds.written("0e7;t;1s8;t");
        due("all are made", 15, all.play());
        due("both thaws", 2, all.count(6));
        CarvedRinks toll = Ponds.halved();
        toll.set(0, 9);
        Ponds.write(toll, "2n4;2e4;t");
        due("ended by a toll", 6, toll.play());
        due("no thaw behind it", 0, toll.count(6));
    }

    private static void thawsOfNothingGoOn() {
        CarvedRinks c = Ponds.written("t;0e1;t;t;0e1");
        due("steps", 2, c.play());
        due("thaws", 3, c.count(6));
    }

    private static void undoableAsOneCall() {
        CarvedRinks c = Ponds.written("0e2;0s2;0w2;t");
        long before = c.digest();
        c.clearBuffer();
        long cleared = c.digest();
        Ponds.write(c, "0e2;0s2;0w2;t");
        due("the text again", 0, c.digest() - before);
        due("steps", 6, c.play());
        due("saved once", 1, c.count(11));
        due("undone as one", 0, c.undo());
        due("all but the buffer is as before", 0, c.digest() - cleared);
    }

    public static void main(String[] args) {
        Sentences s = SENTENCES;
        s.test("7 append",
                "Throws `IllegalArgumentException` if code is not 33 to 126",
                TextBoundariesTest::codes);
        s.test("7 append",
                "Throws `IllegalStateException` if the buffer has 60 characters",
                TextBoundariesTest::atMostSixty);
        s.test("8 clearBuffer", "Returns the length that it had.", TextBoundariesTest::clearedLength);
        s.test("9 firstError",
                "Glides as a text are one or more parts with \";\" between them: a skater, 0 to 2, "
                        + "\"n\", \"e\", \"s\" or \"w\" (the directions 0 to 3), and steps, 1 to 8; or \"t\" "
                        + "(the pond thaws).",
                TextBoundariesTest::parts);
        s.test("9 firstError",
                "a character is a syntax error if no glides as a text, of any length, begin with the "
                        + "characters before it and this character.",
                TextBoundariesTest::ofAnyLength);
        s.test("9 firstError",
                "Returns the index of the first character that is a syntax error; the length of the "
                        + "buffer if there is none.",
                TextBoundariesTest::firstErrorOfAll);
        s.test("10 play",
                "Throws `IllegalArgumentException` if the buffer is not complete glides as a text",
                TextBoundariesTest::notComplete);
        s.test("10 play", "The buffer has at most 60 characters.", TextBoundariesTest::longestText);
        s.test("10 play",
                "Does the glides in the buffer as glide() and thaw() do, part by part, and clears "
                        + "the buffer;",
                TextBoundariesTest::partByPart);
        s.test("10 play",
                "it ends behind the first glide that makes fewer steps than it should.",
                TextBoundariesTest::endsBehindFewerSteps);
        s.test("10 play", "Returns how many steps are made, together.", TextBoundariesTest::thawsOfNothingGoOn);
        s.test("10 play", "Undoable, as one call.", TextBoundariesTest::undoableAsOneCall);
        s.end();
    }
}
