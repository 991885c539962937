/** All that can be asked of an object, and what it does then: two that answer the same here are in the same state. */
final class Everything {
    private final HarbourPilotline x;
    private final StringBuilder text = new StringBuilder();

    private Everything(HarbourPilotline x) {
        this.x = x;
    }

    /** Some 400 calls at the most, and x is another one behind them. */
    static String of(HarbourPilotline x) {
        Everything all = new Everything(x);
        all.ask();
        all.goOn();
        all.ofAll();
        return all.text.toString();
    }

    /** What is asked alone, which changes nothing. */
    static String askedOf(HarbourPilotline x) {
        Everything all = new Everything(x);
        all.ask();
        return all.text.toString();
    }

    private void ask() {
        ofAll();
        ofShips();
        ofPilots();
        ofConferences();
    }

    private void ofAll() {
        add("minute", x::minute);
        add("level", () -> x.level(360));
        for (int what = 0; what <= 7; what++) {
            int asked = what;
            add("count " + what, () -> x.count(asked));
        }
    }

    private void ofShips() {
        for (int i = 0; i <= 12; i++) {
            int ship = i;
            if (!add("ship " + i + " owes", () -> x.bill(ship))) {
                return;
            }
            add("window", () -> x.window(ship, x.minute()));
        }
    }

    private void ofPilots() {
        for (int i = 0; i <= 8; i++) {
            int pilot = i;
            if (!add("pilot " + i + " rested", () -> x.rested(pilot))) {
                return;
            }
            add("anew", () -> x.restedAnew(pilot));
            for (int what = 0; what <= 3; what++) {
                int asked = what;
                add("of it " + what, () -> x.ofPilot(pilot, asked));
            }
        }
    }

    private void ofConferences() {
        for (int i = 0; i <= 40; i++) {
            int conference = i;
            if (!add("conference " + i, () -> x.ofConference(conference, 0))) {
                return;
            }
            for (int what = 1; what <= 4; what++) {
                int asked = what;
                add("of it " + what, () -> x.ofConference(conference, asked));
            }
            add("why", () -> x.why(conference, x.minute()));
        }
    }

    /** What no call tells, such as wishes, who is in a conference, or how many tugs there are, shows by this. */
    private void goOn() {
        add("tugs", () -> x.tugs(4));
        add("a ship", () -> x.ship(60, 10, 20, 1));
        add("a pilot", () -> x.pilot(10, 5));
        add("a conference", () -> x.call(0, x.minute()));
        for (int i = 0; i < 3; i++) {
            int conference = i;
            for (int who = 2; who >= 0; who--) {
                int joins = who;
                add("join " + i + ", " + who, () -> x.join(conference, joins, 0));
            }
        }
        add("again", () -> x.again(1));
        add("drop", () -> x.drop(0, HarbourPilotline.TOWER));
        add("pass", () -> x.pass(100));
    }

    /** Tells whether there was an answer, and no exception. */
    private boolean add(String what, Due.Call call) {
        String outcome = Due.outcome(call);
        text.append(what).append(' ').append(outcome).append('\n');
        return !outcome.endsWith("Exception");
    }
}
