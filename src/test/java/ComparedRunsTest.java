import java.util.TreeMap;

/** Long runs of calls, each answer compared with the one of PlainRinks; the runs never vary. */
public final class ComparedRunsTest {
    private static final int RUNS = 600;
    /** Of the 512 calls for which an object is promised some are left for a turn's last calls. */
    private static final int MOST_CALLS = 490;
    private static final int[] ODD = {-1, Integer.MIN_VALUE, Integer.MAX_VALUE, 9, 10, 64, 100};
    private static final String[] RARE = {
        "stopped for reason 1", "stopped for reason 2", "stopped for reason 3",
        "stopped for reason 4", "toll", "crack of 1 uncut", "crack of 2 cut", "crack of 1 cut",
        "owned rink parted", "owned rink parted by its owner", "like parts", "unlike parts",
        "play", "play ended early", "thaw", "thaw of nothing", "too much filled", "full buffer",
        "best of none", "best is a loss", "best gains", "calm behind several thaws", "no ice",
    };

    private final Check check = new Check();
    private long seed;
    private int calls;

    /** A row of numbers that is always the same behind a seed. */
    private int below(int bound) {
        seed = seed * 6364136223846793005L + 1442695040888963407L;
        return (int) ((seed >>> 33) % bound);
    }

    /** Mostly a number of a range, now and then one just beside it or far away. */
    private int about(int least, int most) {
        int kind = below(24);
        if (kind == 0) {
            return least - 1;
        }
        if (kind == 1) {
            return most + 1;
        }
        return below(200) == 0 ? ODD[below(ODD.length)] : least + below(most - least + 1);
    }

    private void both(String call, Check.Call due, Check.Call got) {
        calls++;
        check.same(call, Check.answerOf(due), Check.answerOf(got));
    }

    private void glide(String at, PlainRinks p, CarvedRinks c) {
        int skater = about(0, 2);
        int direction = about(0, 3);
        int steps = about(1, 8);
        both(at + " glide", () -> p.glide(skater, direction, steps), () -> c.glide(skater, direction, steps));
    }

    private void change(String at, PlainRinks p, CarvedRinks c) {
        int x = about(0, 7);
        int y = about(0, 7);
        int value = about(0, 9);
        int coins = about(1, 99);
        int three = about(0, 2);
        switch (below(4)) {
            case 0:
                both(at + " hole", () -> p.hole(x, y), () -> c.hole(x, y));
                break;
            case 1:
                both(at + " set", () -> p.set(three, value), () -> c.set(three, value));
                break;
            case 2:
                both(at + " pay", () -> p.pay(three, coins), () -> c.pay(three, coins));
                break;
            default:
                both(at + " thaw", p::thaw, c::thaw);
        }
    }

    private void memory(String at, PlainRinks p, CarvedRinks c) {
        switch (below(6)) {
            case 0:
                both(at + " keep", p::keep, c::keep);
                break;
            case 1:
                both(at + " goBack", p::goBack, c::goBack);
                break;
            default:
                both(at + " undo", p::undo, c::undo);
        }
    }

    private void write(String at, PlainRinks p, CarvedRinks c) {
        int kind = below(12);
        if (kind == 0) {
            both(at + " play", p::play, c::play);
        } else if (kind == 1 && below(4) == 0) {
            both(at + " clearBuffer", p::clearBuffer, c::clearBuffer);
        } else if (kind == 2) {
            int code = about(33, 126);
            both(at + " append", () -> p.append(code), () -> c.append(code));
        } else {
            append(at, part() + (below(3) == 0 ? "" : ";"), p, c);
            if (below(3) == 0) {
                both(at + " play", p::play, c::play);
            }
        }
        both(at + " firstError", p::firstError, c::firstError);
    }

    private String part() {
        return below(6) == 0 ? "t" : below(3) + "nesw".substring(below(4)).substring(0, 1) + (1 + below(8));
    }

    private void append(String at, String text, PlainRinks p, CarvedRinks c) {
        for (char sign : text.toCharArray()) {
            both(at + " append " + sign, () -> p.append(sign), () -> c.append(sign));
        }
    }

    private void look(String at, PlainRinks p, CarvedRinks c) {
        int x = about(0, 8);
        int y = about(0, 8);
        int what = about(0, 6);
        int more = about(0, 11);
        int three = about(0, 2);
        int direction = about(0, 3);
        int steps = about(1, 8);
        both(at + " cell", () -> p.cell(x, y, what), () -> c.cell(x, y, what));
        both(at + " line", () -> p.line(x, y, direction, three), () -> c.line(x, y, direction, three));
        both(at + " skater", () -> p.skater(three, more), () -> c.skater(three, more));
        both(at + " rink", () -> p.rink(more, three), () -> c.rink(more, three));
        both(at + " count", () -> p.count(more), () -> c.count(more));
        both(at + " setting", () -> p.setting(three), () -> c.setting(three));
        both(at + " why", () -> p.why(three, direction), () -> c.why(three, direction));
        both(at + " ifGlided", () -> p.ifGlided(three, direction, steps, what % 5),
                () -> c.ifGlided(three, direction, steps, what % 5));
        both(at + " best", () -> p.best(three), () -> c.best(three));
        both(at + " calm", p::calm, c::calm);
        both(at + " ownedShare", () -> Double.doubleToRawLongBits(p.ownedShare()),
                () -> Double.doubleToRawLongBits(c.ownedShare()));
        both(at + " meanRink", () -> Float.floatToRawIntBits(p.meanRink()),
                () -> Float.floatToRawIntBits(c.meanRink()));
    }

    /** How often each kind of call comes, of 20: glide, change, memory, write; the rest are looks. */
    private static int[] mixOf(int run) {
        switch (run % 5) {
            case 0:
                return new int[] {12, 2, 1, 1};
            case 1:
                return new int[] {6, 8, 1, 1};
            case 2:
                return new int[] {4, 2, 3, 9};
            case 3:
                return new int[] {17, 1, 0, 0};
            default:
                return new int[] {1, 17, 0, 0};
        }
    }

    private void run(int run, TreeMap<String, Integer> met) {
        seed = 1000 + run;
        PlainRinks p = new PlainRinks();
        CarvedRinks c = new CarvedRinks();
        int[] mix = mixOf(run);
        calls = 0;
        while (calls < MOST_CALLS && check.isClean()) {
            String at = "run " + run + ", call " + calls + ":";
            int kind = below(20);
            if (kind < mix[0]) {
                glide(at, p, c);
            } else if (kind < mix[0] + mix[1]) {
                change(at, p, c);
            } else if (kind < mix[0] + mix[1] + mix[2]) {
                memory(at, p, c);
            } else if (kind < mix[0] + mix[1] + mix[2] + mix[3]) {
                write(at, p, c);
            } else {
                look(at, p, c);
            }
            if (below(16) == 0) {
                both(at + " digest", p::digest, c::digest);
            }
        }
        both("run " + run + ": the last digest", p::digest, c::digest);
        p.met.forEach((what, times) -> met.merge(what, times, Integer::sum));
    }

    /** Pays until no more may be filled, which a mixed run hardly ever does. */
    private void payRun(TreeMap<String, Integer> met) {
        seed = 77;
        PlainRinks p = new PlainRinks();
        CarvedRinks c = new CarvedRinks();
        for (int call = 0; call < 150; call++) {
            int skater = below(3);
            int coins = 99 - below(call < 100 ? 2 : 99);
            both("pay run, call " + call, () -> p.pay(skater, coins), () -> c.pay(skater, coins));
        }
        both("pay run: the digest", p::digest, c::digest);
        p.met.forEach((what, times) -> met.merge(what, times, Integer::sum));
    }

    public static void main(String[] args) {
        ComparedRunsTest test = new ComparedRunsTest();
        TreeMap<String, Integer> met = new TreeMap<>();
        for (int run = 0; run < RUNS; run++) {
            test.run(run, met);
        }
        test.payRun(met);
        if (test.check.isClean()) {
            for (String rare : RARE) {
                if (!met.containsKey(rare)) {
                    test.check.tell("no run has met: " + rare);
                }
            }
        }
        if (args.length > 0) {
            System.out.println(met);
        }
        test.check.end();
    }
}
