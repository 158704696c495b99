import java.util.ArrayDeque;

/** The boundary cases that the document names of saved states and the snapshot. */
public final class UndoBoundariesTest {
    private static final Sentences SENTENCES = new Sentences();

    private static void due(String what, long due, long got) {
        SENTENCES.due(what, due, got);
    }

    /** A pond with 4 saved states and a snapshot, where lines crack when they are glided again. */
    private static CarvedRinks brittle() {
        CarvedRinks c = Ponds.busy();
        c.set(1, 1);
        c.keep();
        c.clearBuffer();
        return c;
    }

    private static long playing(CarvedRinks c, String text) {
        Ponds.write(c, text);
        return c.play();
    }

    // ---- saved states

    private static void atMostSix() {
        CarvedRinks c = new CarvedRinks();
        for (int coins = 1; coins <= 10; coins++) {
            c.pay(0, coins);
            due("saved behind " + coins, Math.min(coins, 6), c.count(11));
        }
        int[] purses = {65, 56, 48, 41, 35, 30};
        for (int undone = 0; undone < 6; undone++) {
            due("left", 5 - undone, c.undo());
            due("the purse then", purses[undone], c.skater(0, 2));
            due("saved then", 5 - undone, c.count(11));
        }
        SENTENCES.dueText("a seventh", "throws.IllegalStateException", Check.answerOf(c::undo));
        due("the purse stays", 30, c.skater(0, 2));
        CarvedRinks s = new CarvedRinks();
        for (int coins = 1; coins <= 6; coins++) {
            s.pay(0, coins);
        }
        for (int left = 5; left >= 0; left--) {
            due("six alone, left", left, s.undo());
        }
        due("six alone, the first state", 20, s.skater(0, 2));
    }

    /** The rows of pays and undos go round the places of the saved states many times. */
    private static void againAndAgain() {
        CarvedRinks c = new CarvedRinks();
        ArrayDeque<Integer> saved = new ArrayDeque<>();
        int purse = 20;
        for (int round = 0; round < 40; round++) {
            for (int pay = 0; pay <= round % 8; pay++) {
                saved.addLast(purse);
                if (saved.size() > 6) {
                    saved.removeFirst();
                }
                purse += 1 + pay;
                due("purse", purse, c.pay(0, 1 + pay));
            }
            for (int undo = 0; undo < round % 5 && !saved.isEmpty(); undo++) {
                purse = saved.removeLast();
                due("left", saved.size(), c.undo());
                due("purse of the state", purse, c.skater(0, 2));
            }
        }
    }

    private static void dueSaved(String what, int more, Sentences.Use use) {
        CarvedRinks c = brittle();
        c.undo();
        int before = c.count(11);
        use.answer(c);
        due(what, before + more, c.count(11));
    }

    private static void eachUndoableMethod() {
        dueSaved("glide", 1, c -> c.glide(0, 1, 8));
        dueSaved("glide of no step", 1, c -> c.glide(0, 2, 1));
        dueSaved("set and thaw", 2, c -> c.set(2, 1) + c.thaw());
        dueSaved("thaw of nothing", 1, CarvedRinks::thaw);
        dueSaved("hole", 1, c -> c.hole(0, 0));
        dueSaved("pay", 1, c -> c.pay(0, 1));
        dueSaved("set", 1, c -> c.set(0, 9));
        dueSaved("set to the same", 1, c -> c.set(0, c.setting(0)));
        dueSaved("play", 1, c -> playing(c, "0n1"));
        dueSaved("play of several", 1, c -> playing(c, "0n1;t;0s1;t"));
        dueSaved("play of no step", 1, c -> playing(c, "0s1;t"));
        dueSaved("goBack", 1, CarvedRinks::goBack);
        dueSaved("goBack to the same", 2, c -> c.goBack() + c.goBack());
    }

    private static void methodsThatSaveNothing() {
        dueSaved("append", 0, c -> c.append('0'));
        dueSaved("clearBuffer", 0, CarvedRinks::clearBuffer);
        dueSaved("firstError", 0, CarvedRinks::firstError);
        dueSaved("keep", 0, CarvedRinks::keep);
        dueSaved("undo drops one", -1, CarvedRinks::undo);
        dueSaved("cell", 0, c -> c.cell(0, 0, 5));
        dueSaved("ifGlided", 0, c -> c.ifGlided(0, 0, 8, 0));
        dueSaved("best", 0, c -> c.best(0));
        dueSaved("calm", 0, CarvedRinks::calm);
        dueSaved("digest", 0, CarvedRinks::digest);
    }

    private static void alsoWhatIsCounted() {
        Sentences.Pond pond = UndoBoundariesTest::brittle;
        for (int skater = 0; skater < 3; skater++) {
            for (int direction = 0; direction < 4; direction++) {
                int s = skater;
                int d = direction;
                SENTENCES.harmless("glide " + s + " " + d + " and undo", pond, c -> c.glide(s, d, 8) + c.undo());
            }
        }
        SENTENCES.harmless("a crack and undo", pond, c -> c.glide(2, 3, 2) + c.undo());
        SENTENCES.harmless("thaw and undo", pond, c -> c.thaw() + c.undo());
        SENTENCES.harmless("hole and undo", pond, c -> c.hole(0, 0) + c.undo());
        SENTENCES.harmless("pay and undo", pond, c -> c.pay(1, 99) + c.undo());
        SENTENCES.harmless("set 0 and undo", pond, c -> c.set(0, 9) + c.undo());
        SENTENCES.harmless("set 1 and undo", pond, c -> c.set(1, 9) + c.undo());
        SENTENCES.harmless("set 2 and undo", pond, c -> c.set(2, 4) + c.undo());
        SENTENCES.harmless("play and undo", pond, c -> playing(c, "2w2;0n3;t;1w8;t") + c.undo());
        SENTENCES.harmless("goBack and undo", pond, c -> c.goBack() + c.undo());
    }

    private static void countsOfAState() {
        CarvedRinks c = Ponds.halved();
        c.glide(2, Ponds.NORTH, 4);
        int[] counts = {64, 2, 2, 1, 8, 0, 0, 0, 60, 60, 32, 3};
        c.set(1, 1);
        playing(c, "2e2;2w2;t;0n2;0s2;1w2");
        c.undo();
        c.undo();
        for (int what = 0; what <= 11; what++) {
            due("count " + what, counts[what], c.count(what));
        }
        int[][] numbers = {{4, 8, 20, 32, 32, 1, 12, 0, 0}, {8, 0, 20, 0, 0, 0, 0, 0, 0}, {0, 4, 20, 0, 0, 0, 4, 0, 0}};
        for (int skater = 0; skater < 3; skater++) {
            for (int what = 0; what <= 8; what++) {
                due("skater " + skater + ", " + what, numbers[skater][what], c.skater(skater, what));
            }
        }
    }

    private static void notTheBuffer() {
        CarvedRinks c = Ponds.written("0");
        c.pay(0, 1);
        c.append('e');
        c.undo();
        due("what was appended stays", 3, c.append('3'));
        due("played", 3, c.play());
        c.undo();
        due("what was cleared stays cleared", 0, c.clearBuffer());
    }

    private static void notTheSnapshot() {
        CarvedRinks c = new CarvedRinks();
        c.hole(0, 0);
        c.keep();
        c.undo();
        due("the snapshot taken behind the state stays", 63, c.goBack());
        CarvedRinks other = new CarvedRinks();
        other.keep();
        other.hole(1, 1);
        other.hole(2, 2);
        other.keep();
        other.undo();
        other.undo();
        due("not the one before", 62, other.goBack());
    }

    private static void noneIsLeft() {
        SENTENCES.refused("IllegalStateException", "at first", () -> Ponds.written("0e"), CarvedRinks::undo);
        Sentences.Pond undone = () -> {
            CarvedRinks c = Ponds.cornered();
            c.keep();
            c.undo();
            c.undo();
            c.undo();
            return c;
        };
        SENTENCES.refused("IllegalStateException", "behind the last one", undone, CarvedRinks::undo);
        CarvedRinks one = new CarvedRinks();
        one.pay(0, 1);
        due("the last one", 0, one.undo());
    }

    // ---- the snapshot

    private static void inPlaceOfTheOne() {
        CarvedRinks c = new CarvedRinks();
        due("all ice", 64, c.keep());
        c.hole(0, 0);
        due("the later one", 63, c.keep());
        c.hole(0, 1);
        due("back", 63, c.goBack());
        due("not the hole behind it", 1, c.cell(0, 1, 0));
        due("the hole ahead of it", 0, c.cell(0, 0, 0));
        Ponds.melt(c);
        due("no ice", 0, c.keep());
        c.undo();
        due("one cell", 1, c.count(0));
        due("back to no ice", 0, c.goBack());
    }

    private static void snapshotStays() {
        CarvedRinks c = brittle();
        String kept = stateOf(c);
        for (int times = 0; times < 3; times++) {
            playing(c, "2w2;0n3;t;1w8;t");
            c.pay(2, 50);
            c.set(2, 4);
            c.hole(7, 7);
            c.goBack();
            SENTENCES.dueText("the state, time " + times, kept, stateOf(c));
        }
        c.undo();
        due("undone", 0, c.cell(7, 7, 0));
        due("undone, too", 4, c.setting(2));
    }

    /** All numbers of the pond, the settings and the skaters but the saved states. */
    private static String stateOf(CarvedRinks c) {
        StringBuilder state = new StringBuilder();
        for (int what = 0; what <= 10; what++) {
            state.append(c.count(what)).append(' ');
        }
        for (int setting = 0; setting < 3; setting++) {
            state.append(c.setting(setting)).append(' ');
        }
        for (int skater = 0; skater < 3; skater++) {
            for (int what = 0; what <= 8; what++) {
                state.append(c.skater(skater, what)).append(' ');
            }
        }
        for (int place = 0; place < 8; place++) {
            state.append(c.line(place, 4, 1, 0)).append(c.line(4, place, 2, 1)).append(c.cell(place, 0, 1));
        }
        return state.toString();
    }

    private static void notTheSavedStatesNorTheBuffer() {
        CarvedRinks c = Ponds.written("0e");
        c.pay(0, 1);
        c.keep();
        c.pay(0, 2);
        c.pay(0, 3);
        c.append('1');
        c.goBack();
        due("one state more", 4, c.count(11));
        due("the buffer stays", 3, c.clearBuffer());
        int[] purses = {26, 23, 21, 20};
        for (int undone = 0; undone < 4; undone++) {
            c.undo();
            due("the purse of the state " + undone, purses[undone], c.skater(0, 2));
        }
    }

    private static void iceOfTheSnapshot() {
        CarvedRinks c = new CarvedRinks();
        c.hole(0, 0);
        due("63 are kept", 63, c.keep());
        Ponds.melt(c);
        due("none now", 0, c.count(0));
        due("63 then", 63, c.goBack());
        CarvedRinks m = Ponds.onlyIce();
        due("none is kept", 0, m.keep());
        m.undo();
        due("one now", 1, m.count(0));
        due("none then", 0, m.goBack());
    }

    private static void goBackIsUndoable() {
        CarvedRinks c = new CarvedRinks();
        c.keep();
        due("to the same", 64, c.goBack());
        due("saved", 1, c.count(11));
        c.pay(0, 5);
        c.goBack();
        due("back", 20, c.skater(0, 2));
        due("undone", 2, c.undo());
        due("the purse", 25, c.skater(0, 2));
    }

    private static void noSnapshot() {
        SENTENCES.refused("IllegalStateException", "at first", CarvedRinks::new, CarvedRinks::goBack);
        SENTENCES.refused("IllegalStateException", "with saved states", Ponds::cornered, CarvedRinks::goBack);
        CarvedRinks c = new CarvedRinks();
        c.keep();
        due("one of the first state", 64, c.goBack());
    }

    // ---- the number of calls

    private static void calls512() {
        CarvedRinks thaws = new CarvedRinks();
        CarvedRinks pays = new CarvedRinks();
        CarvedRinks texts = new CarvedRinks();
        CarvedRinks glides = new CarvedRinks();
        CarvedRinks digests = new CarvedRinks();
        long digest = new CarvedRinks().digest();
        for (int call = 1; call <= 511; call++) {
            thaws.thaw();
            due("call " + call + ", pay", 20 + call, pays.pay(0, 1));
            due("call " + call + ", append", call % 2, call % 2 == 1 ? texts.append('t') : texts.clearBuffer() - 1);
            due("call " + call + ", glide", 0, glides.glide(0, 0, 8));
            due("call " + call + ", digest", 0, digests.digest() - digest);
        }
        due("call 512, thaws", 511, thaws.count(6));
        due("call 512, filled", 571, pays.count(9));
        due("call 512, the buffer", 1, texts.clearBuffer());
        due("call 512, saved states", 5, glides.undo());
        due("call 512, digest", 0, digests.digest() - digest);
    }

    public static void main(String[] args) {
        Sentences s = SENTENCES;
        s.test("13 undo",
                "At most 6 states are saved; the oldest one is dropped first.",
                UndoBoundariesTest::atMostSix);
        s.test("13 undo", "Restores the latest saved state, and drops it.", UndoBoundariesTest::againAndAgain);
        s.test("13 undo",
                "saves the state from before it (also if it changes nothing):",
                UndoBoundariesTest::eachUndoableMethod);
        s.test("13 undo",
                "Each method that is marked \"undoable\" and does not throw an exception",
                UndoBoundariesTest::methodsThatSaveNothing);
        s.test("13 undo", "all, also what is counted so far,", UndoBoundariesTest::alsoWhatIsCounted);
        s.test("18 count", "all, also what is counted so far,", UndoBoundariesTest::countsOfAState);
        s.test("13 undo",
                "but the buffer, the snapshot and the saved states.",
                UndoBoundariesTest::notTheBuffer);
        s.test("13 undo", "the snapshot and the saved states.", UndoBoundariesTest::notTheSnapshot);
        s.test("13 undo", "Throws `IllegalStateException` if there is none", UndoBoundariesTest::noneIsLeft);
        s.test("11 keep",
                "Takes a snapshot of the state (of all that undo() would restore), in place of the "
                        + "one that was.",
                UndoBoundariesTest::inPlaceOfTheOne);
        s.test("12 goBack", "Goes back to the snapshot, which stays.", UndoBoundariesTest::snapshotStays);
        s.test("12 goBack", "Returns how many cells are ice then.", UndoBoundariesTest::iceOfTheSnapshot);
        s.test("12 goBack",
                "(of all that undo() would restore)",
                UndoBoundariesTest::notTheSavedStatesNorTheBuffer);
        s.test("12 goBack", "which stays. Undoable.", UndoBoundariesTest::goBackIsUndoable);
        s.test("12 goBack",
                "Throws `IllegalStateException` if there is no snapshot",
                UndoBoundariesTest::noSnapshot);
        s.test("1 A new object",
                "An object is used for at most 512 calls after it has been made;",
                UndoBoundariesTest::calls512);
        s.end();
    }
}
