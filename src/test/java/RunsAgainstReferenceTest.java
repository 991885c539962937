import java.util.ArrayDeque;

/** Runs of 512 mixed calls, right and wrong ones, on the program and on the slow Reference alike. */
public final class RunsAgainstReferenceTest {
    private static final int RUNS = 1500;
    private static final int CALLS = 512;

    private final Due due;
    private final int run;
    private final HarbourPilotline real = new HarbourPilotline();
    private final Reference reference = new Reference();
    private final ArrayDeque<String> last = new ArrayDeque<>();
    private final int[] wildValues = {Integer.MIN_VALUE, -2, -1, 0, 1, 2, 3, 4, 5, 7, 8, 9, 12, 40, 121, 400,
        20000, 20001, 21440, 21441, 30000, 30001, Integer.MAX_VALUE - 1, Integer.MAX_VALUE};
    private long seed;

    private RunsAgainstReferenceTest(Due due, int run) {
        this.due = due;
        this.run = run;
        seed = 0x9E3779B97F4A7C15L * (run + 1);
    }

    public static void main(String[] args) {
        Due due = new Due();
        for (int run = 0; run < RUNS; run++) {
            new RunsAgainstReferenceTest(due, run).play();
        }
        due.close();
    }

    private void play() {
        // Some runs make all there is first, so that limits and crowded days come up.
        boolean crowded = run % 3 == 0;
        for (int call = 0; call < CALLS; call++) {
            int kind = crowded && call < 24 ? 2 + call % 2 : pick(100);
            if (!step(kind)) {
                return;
            }
        }
    }

    private boolean step(int kind) {
        if (kind < 2) {
            return tell(kind == 0 ? "tide" : "tugs", kind, pick(120) + 60, pick(6) == 0 ? 0 : pick(60), 0, 0);
        }
        if (kind == 2) {
            return tell("ship", 2, pick(70) + 50, pick(30) + 1, pick(111) + 10, pick(4));
        }
        if (kind == 3) {
            return tell("pilot", 3, pick(30) + 8, pick(50) + 1, 0, 0);
        }
        if (kind < 16) {
            int wish = reference.now + (pick(2) == 0 ? pick(30) : pick(1500));
            return tell("call", 4, below(reference.ships), wish, 0, 0);
        }
        if (kind < 55) {
            return tell("join", 5, mostly(), pick(3), below(reference.pilots), 0);
        }
        if (kind < 60) {
            return tell("again", 6, mostly(), 0, 0, 0);
        }
        if (kind < 68) {
            return tell("drop", 7, mostly(), pick(3), 0, 0);
        }
        if (kind < 72) {
            return tell("pass", 8, pick(5) == 0 ? pick(2000) + 1 : pick(60) + 1, 0, 0, 0);
        }
        return ask(kind);
    }

    private boolean ask(int kind) {
        int soon = reference.now + pick(400);
        switch (kind) {
            case 72: return tell("minute", 9, 0, 0, 0, 0);
            case 73: return tell("level", 10, pick(30001), 0, 0, 0);
            case 74: return tell("window", 11, below(reference.ships), pick(20001), 0, 0);
            case 75: case 76: return tell("rested", 13, below(reference.pilots), 0, 0, 0);
            case 77: case 78: return tell("restedAnew", 14, below(reference.pilots), 0, 0, 0);
            case 79: return tell("bill", 15, below(reference.ships), 0, 0, 0);
            case 80: case 81: return tell("ofPilot", 16, below(reference.pilots), pick(4), 0, 0);
            case 82: case 83: case 84: case 85: return tell("count", 17, pick(8), 0, 0, 0);
            case 86: case 87: case 88: case 89: case 90: return tell("why", 18, mostly(), soon, 0, 0);
            default: return tell("ofConference", 12, mostly(), pick(5), 0, 0);
        }
    }

    /** Makes one call on both, now and then with a wild argument, and compares. */
    private boolean tell(String name, int kind, int a, int b, int c, int d) {
        int[] x = {a, b, c, d};
        if (kind == 1) {
            x[0] = pick(7);
        }
        if (pick(25) == 0) {
            x[pick(4)] = wildValues[pick(wildValues.length)];
        }
        last.add(name + "(" + x[0] + ", " + x[1] + ", " + x[2] + ", " + x[3] + ")");
        String want = Due.outcome(() -> onReference(kind, x));
        String got = Due.outcome(() -> onReal(kind, x));
        if (!got.equals(want)) {
            due.tell("run " + run + ": " + last + " answered " + got + ", due is " + want);
        }
        return got.equals(want);
    }

    private long onReal(int kind, int[] x) {
        switch (kind) {
            case 0: real.tide(x[0], x[1]); return 0;
            case 1: return real.tugs(x[0]);
            case 2: return real.ship(x[0], x[1], x[2], x[3]);
            case 3: return real.pilot(x[0], x[1]);
            case 4: return real.call(x[0], x[1]);
            case 5: return real.join(x[0], x[1], x[2]);
            case 6: return real.again(x[0]);
            case 7: return real.drop(x[0], x[1]);
            case 8: return real.pass(x[0]);
            case 9: return real.minute();
            case 10: return real.level(x[0]);
            case 11: return real.window(x[0], x[1]);
            case 12: return real.ofConference(x[0], x[1]);
            case 13: return real.rested(x[0]);
            case 14: return real.restedAnew(x[0]);
            case 15: return real.bill(x[0]);
            case 16: return real.ofPilot(x[0], x[1]);
            case 17: return real.count(x[0]);
            default: return real.why(x[0], x[1]);
        }
    }

    private long onReference(int kind, int[] x) {
        switch (kind) {
            case 0: reference.tide(x[0], x[1]); return 0;
            case 1: return reference.tugs(x[0]);
            case 2: return reference.ship(x[0], x[1], x[2], x[3]);
            case 3: return reference.pilot(x[0], x[1]);
            case 4: return reference.call(x[0], x[1]);
            case 5: return reference.join(x[0], x[1], x[2]);
            case 6: return reference.again(x[0]);
            case 7: return reference.drop(x[0], x[1]);
            case 8: return reference.pass(x[0]);
            case 9: return reference.minute();
            case 10: return reference.level(x[0]);
            case 11: return reference.window(x[0], x[1]);
            case 12: return reference.ofConference(x[0], x[1]);
            case 13: case 14: return reference.rested(x[0]);
            case 15: return reference.bill(x[0]);
            case 16: return reference.ofPilot(x[0], x[1]);
            case 17: return reference.count(x[0]);
            default: return reference.why(x[0], x[1]);
        }
    }

    /** Mostly the newest conferences, so that they get full. */
    private int mostly() {
        int all = reference.conferences;
        return pick(2) == 0 ? Math.max(0, all - 1 - pick(3)) : below(all);
    }

    private int below(int size) {
        return pick(Math.max(1, size));
    }

    private int pick(int most) {
        seed = seed * 6364136223846793005L + 1442695040888963407L;
        return (int) ((seed >>> 33) % most);
    }
}
