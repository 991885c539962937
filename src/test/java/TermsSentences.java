/** A test for each sentence ahead of promise 1 that is not about how a slot is looked for. */
final class TermsSentences {
    private static final int PILOT = HarbourPilotline.PILOT;

    private TermsSentences() {
    }

    @Says(promise = 0, value = "An object is used for at most 512 calls after it has been made;"
            + " what later calls answer is free.")
    static void p00_512Calls(Due due) {
        HarbourPilotline asked = new HarbourPilotline();
        for (int call = 1; call < 512; call++) {
            asked.pass(1);
        }
        due.same("the 512th call", 511, asked::minute);

        // Five calls made it, 504 more come and go, and the last of three joins is the 512th.
        Harbour told = Harbour.oneCalling();
        for (int pair = 0; pair < 252; pair++) {
            told.x.join(0, HarbourPilotline.SHIP, 0);
            told.x.drop(0, HarbourPilotline.SHIP);
        }
        due.same("a slot by the 512th call", 20, () -> told.fill(0, 0));
    }

    @Says(promise = 0, value = "Tides, ships, pilots, calls and minutes are told; windows, slots, rests and bills"
            + " are asked, which changes nothing.")
    static void p00_askingChangesNothing(Due due) {
        Edges.Made[] all = Harbour.states();
        for (int state = 0; state < all.length; state++) {
            Harbour asked = all[state].harbour();
            Harbour left = all[state].harbour();
            String first = Everything.askedOf(asked.x);
            String second = Everything.askedOf(asked.x);
            if (!first.equals(second)) {
                due.tell("asked twice, it answers otherwise in state " + state);
            }
            if (!Everything.of(asked.x).equals(Everything.of(left.x))) {
                due.tell("asking changed something in state " + state);
            }
        }
    }

    @Says(promise = 0, value = "All divisions are rounded down.")
    static void p00_divisionsAreRoundedDown(Due due) {
        HarbourPilotline x = new HarbourPilotline();
        int[][] rows = {
            // rise, minute, level
            {40, 8, 0}, {40, 9, 1}, {40, 17, 1}, {40, 18, 2}, {40, 359, 39}, {40, 361, 39}, {1, 359, 0}, {1, 360, 1},
            {1, 361, 0}, {199, 180, 99}, {199, 540, 99}, {200, 1, 0}, {200, 2, 1}, {200, 359, 199}, {200, 719, 0},
            {0, 360, 0}};
        for (int[] row : rows) {
            x.tide(100, row[0]);
            due.same("rise " + row[0] + ", level(" + row[1] + ")", row[2], () -> x.level(row[1]));
        }
    }

    @Says(promise = 0, value = "Minutes are counted from 0, at most 20000.")
    static void p00_minutesFrom0To20000(Due due) {
        Harbour h = Harbour.deep();
        due.same("the first minute", 0, h.x::minute);
        h.passTo(19999);
        due.thrown("two behind 19999", Due.STATE, () -> h.x.pass(2));
        due.same("one behind 19999", 0, () -> h.x.pass(1));
        due.same("the last minute", 20000, h.x::minute);
        due.thrown("one behind 20000", Due.STATE, () -> h.x.pass(1));
        due.same("still the last minute", 20000, h.x::minute);
    }

    @Says(promise = 0, value = "Minutes are counted from 0, at most 20000.")
    static void p00_aMoveAtTheLastMinute(Due due) {
        Harbour h = Harbour.deep();
        h.ship(10, 0);
        h.pilots(2);
        h.full(0, 20000, 0);
        h.passTo(19999);
        due.same("SET a minute ahead", 2, () -> h.state(0));
        h.x.pass(1);
        due.same("ABOARD at 20000", 3, () -> h.state(0));
        due.same("another at 20015", 20015, () -> h.slot(h.full(0, 20000, 1)));
        due.same("SET, it never comes", 2, () -> h.state(1));
    }

    @Says(promise = 0, value = "The tide goes up for 360 minutes, and down for 360, again and again: ")
    static void p00_tideUpAndDown(Due due) {
        HarbourPilotline x = new HarbourPilotline();
        x.tide(100, 180);
        int[][] levels = {{0, 0}, {2, 1}, {358, 179}, {360, 180}, {362, 179}, {718, 1}, {720, 0}, {722, 1},
            {1078, 179}, {1080, 180}, {1082, 179}, {1438, 1}, {1440, 0}, {1442, 1}, {19798, 179}, {19800, 180},
            {19802, 179}, {20158, 1}, {20160, 0}, {20162, 1}, {29520, 0}, {29880, 180}, {30000, 120}};
        for (int[] pair : levels) {
            due.same("level(" + pair[0] + ")", pair[1], () -> x.level(pair[0]));
        }
    }

    @Says(promise = 0, value = "so many minutes behind a multiple of 720, or ahead of the next one, whichever is less,"
            + " it is that many times the rise, divided by 360, above the depth of the channel;")
    static void p00_whicheverIsLess(Due due) {
        for (int first = 0; first < 30000; first += 360) {
            HarbourPilotline x = new HarbourPilotline();
            x.tide(10, 120);
            for (int minute = first; minute <= first + 360; minute += 3) {
                int asked = minute;
                int behind = minute % 720;
                int less = behind < 720 - behind ? behind : 720 - behind;
                if (asked <= 30000) {
                    due.same("level(" + minute + ")", less / 3, () -> x.level(asked));
                }
            }
        }
    }

    @Says(promise = 0, value = "depth and rise are 100 and 40 at first.")
    static void p00_depth100Rise40AtFirst(Due due) {
        HarbourPilotline x = new HarbourPilotline();
        due.same("level(360)", 40, () -> x.level(360));
        x.ship(90, 1, 10, 0);
        x.ship(91, 1, 10, 0);
        x.ship(129, 1, 10, 0);
        x.ship(130, 1, 10, 0);
        due.same("90 needs no tide", 0, () -> x.window(0, 0));
        due.same("91 needs one foot", 9, () -> x.window(1, 0));
        due.same("129 needs 39 feet", 351, () -> x.window(2, 0));
        due.same("130 needs 40 feet, there for one minute alone", -1, () -> x.window(3, 0));
    }

    @Says(promise = 0, value = "A ship that moves needs, in each minute of its move, that depth and tide together are"
            + " at least its draught and 10.")
    static void p00_inEachMinuteOfItsMove(Due due) {
        int[][] rows = {
            // draught and minutes of a move; the tide does from minute 9 to 711 for 91, from 90 to 630 for 100
            {91, 10, 9, 702}, {91, 11, 9, 701}, {91, 120, 9, 592}, {100, 10, 90, 621}, {100, 120, 90, 511},
            {129, 10, 351, 360}, {129, 18, 351, 352}, {129, 19, 351, 351}};
        for (int[] row : rows) {
            Harbour h = new Harbour();
            h.x.ship(row[0], 1, row[1], 0);
            h.pilot();
            h.x.call(0, 0);
            h.x.join(0, HarbourPilotline.PILOT, 0);
            String told = "draught " + row[0] + " for " + row[1] + " at ";
            int[][] edges = {{row[2] - 1, 1}, {row[2], 0}, {row[3], 0}, {row[3] + 1, 1}, {row[2] + 719, 1},
                {row[2] + 720, 0}, {row[3] + 720, 0}, {row[3] + 721, 1}};
            for (int[] edge : edges) {
                due.same(told + edge[0], edge[1], () -> h.x.why(0, edge[0]));
            }
            due.same(told + "first", row[2], () -> h.x.window(0, 0));
            due.same(told + "last", row[3], () -> h.x.window(0, row[3]));
            due.same(told + "again", row[2] + 720, () -> h.x.window(0, row[3] + 1));
        }
    }

    @Says(promise = 0, value = "Ships are numbered from 0, at most 12, each with a draught, tons, how many minutes its"
            + " moves take, and how many tugs it needs.")
    static void p00_shipsFrom0AtMost12(Due due) {
        for (int many : new int[] {1, 2, 11, 12}) {
            Edges.Made made = () -> {
                Harbour h = Harbour.deep();
                h.ships(many);
                return h;
            };
            Edges edges = new Edges(due, made);
            String told = " of " + many + " ships,";
            edges.range("bill" + told, 0, many - 1, Due.INDEX, HarbourPilotline::bill);
            edges.range("window" + told, 0, many - 1, Due.INDEX, (x, ship) -> x.window(ship, 0));
            edges.range("call" + told, 0, many - 1, Due.INDEX, (x, ship) -> x.call(ship, 0));
        }
        Harbour h = new Harbour();
        h.x.ship(90, 10, 20, 1);
        h.x.ship(100, 11, 30, 2);
        h.x.pilot(10, 1);
        h.x.pilot(11, 1);
        h.x.call(0, 0);
        h.x.call(1, 0);
        due.thrown("its own tons", Due.STATE, () -> h.x.join(1, 2, 0));
        due.same("its own draught, the first", 0, () -> h.fill(0, 0));
        due.same("its own draught, the second", 90, () -> h.fill(1, 1));
        due.same("its own tugs, the first", 1, () -> h.x.count(5));
        due.same("its own minutes, the first", 0, () -> h.x.pass(19));
        due.same("over behind 20", 1, () -> h.x.pass(1));
        h.x.pass(70);
        due.same("its own tugs, the second", 2, () -> h.x.count(5));
        due.same("its own minutes, the second", 0, () -> h.x.pass(29));
        due.same("over behind 30", 1, () -> h.x.pass(1));
    }

    @Says(promise = 0, value = "Pilots are numbered from 0, at most 8, each with a licence, up to so many tons, and a"
            + " rate for each minute.")
    static void p00_pilotsFrom0AtMost8(Due due) {
        for (int many : new int[] {1, 2, 7, 8}) {
            Edges.Made made = () -> {
                Harbour h = Harbour.deep();
                h.ships(1);
                h.pilots(many);
                h.calls(1);
                return h;
            };
            Edges edges = new Edges(due, made);
            String told = " of " + many + " pilots,";
            edges.range("rested" + told, 0, many - 1, Due.INDEX, HarbourPilotline::rested);
            edges.range("restedAnew" + told, 0, many - 1, Due.INDEX, HarbourPilotline::restedAnew);
            edges.range("ofPilot" + told, 0, many - 1, Due.INDEX, (x, pilot) -> x.ofPilot(pilot, 0));
            edges.range("join" + told, 0, many - 1, Due.INDEX, (x, pilot) -> x.join(0, 2, pilot));
        }
        Harbour h = Harbour.deep();
        h.ship(10, 0);
        h.x.pilot(10, 3);
        h.x.pilot(10, 7);
        h.full(0, 0, 0);
        h.full(0, 15, 1);
        h.x.pass(25);
        due.same("the first one's rate", 30, () -> h.x.ofPilot(0, 3));
        due.same("the second one's rate", 70, () -> h.x.ofPilot(1, 3));
    }

    @Says(promise = 0, value = "There are some tugs, 2 at first.")
    static void p00_tugs2AtFirst(Due due) {
        Harbour h = new Harbour();
        h.x.ship(50, 10, 10, 2);
        h.x.ship(50, 10, 10, 3);
        h.pilot();
        for (int ship = 0; ship < 2; ship++) {
            int conference = h.x.call(ship, 0);
            h.x.join(conference, HarbourPilotline.PILOT, 0);
            due.same(2 + ship + " tugs", ship == 0 ? 0 : 3, () -> h.x.why(conference, 0));
        }
    }

    @Says(promise = 0, value = "Conferences are numbered from 0, at most 40: for a move of a ship, at a wished minute"
            + " or later.")
    static void p00_conferencesFrom0AtMost40(Due due) {
        for (int many : new int[] {1, 2, 39, 40}) {
            Edges.Made made = () -> {
                Harbour h = Harbour.deep();
                h.ship(10, 1);
                h.pilots(8);
                h.calls(many);
                h.x.tugs(0);
                // The first and the last are JOINED, so that all calls of a conference are open to them.
                h.fill(0, 0);
                if (many > 1) {
                    h.fill(many - 1, 1);
                }
                return h;
            };
            Edges edges = new Edges(due, made);
            String told = " of " + many + " conferences,";
            edges.range("ofConference" + told, 0, many - 1, Due.INDEX, (x, i) -> x.ofConference(i, 0));
            edges.range("again" + told, 0, many - 1, Due.INDEX, HarbourPilotline::again);
            edges.range("drop" + told, 0, many - 1, Due.INDEX, (x, i) -> x.drop(i, 0));
            edges.range("why" + told, 0, many - 1, Due.INDEX, (x, i) -> x.why(i, 0));
            edges.range("drop and join" + told, 0, many - 1, Due.INDEX, (x, i) -> x.drop(i, 0) + x.join(i, 0, 0));
        }
        Edges empty = new Edges(due, Harbour::oneCalling);
        empty.range("join of 1 conference,", 0, 0, Due.INDEX, (x, i) -> x.join(i, 0, 0));
        new Edges(due, Harbour::crowded).range("join of 40 conferences,", 0, 39, Due.INDEX, (x, i) -> x.join(i, 0, 0));
    }

    @Says(promise = 0, value = "A call that throws an exception changes nothing.")
    static void p00_refusedChangesNothing(Due due) {
        Edges.Made[] all = {Harbour::oneCalling, Harbour::oneJoined, Harbour::oneSet, Harbour::oneAboard,
            Harbour::oneDone, Harbour::crowded};
        for (Edges.Made made : all) {
            Edges edges = new Edges(due, made);
            edges.refused("tide", Due.ARGUMENT, x -> {
                x.tide(10, 201);
                return 0;
            });
            edges.refused("tugs", Due.ARGUMENT, x -> x.tugs(7));
            edges.refused("ship", Due.ARGUMENT, x -> x.ship(50, 10, 10, 4));
            edges.refused("pilot", Due.ARGUMENT, x -> x.pilot(10, 51));
            edges.refused("call", Due.ARGUMENT, x -> x.call(0, 20001));
            edges.refused("join", Due.INDEX, x -> x.join(0, PILOT, 8));
            edges.refused("again", Due.INDEX, x -> x.again(40));
            edges.refused("drop", Due.INDEX, x -> x.drop(0, 3));
            edges.refused("pass", Due.ARGUMENT, x -> x.pass(2001));
            edges.refused("level", Due.ARGUMENT, x -> x.level(30001));
            edges.refused("window", Due.ARGUMENT, x -> x.window(0, 20001));
            edges.refused("ofConference", Due.INDEX, x -> x.ofConference(0, 5));
            edges.refused("why", Due.ARGUMENT, x -> x.why(0, 21441));
            edges.refused("rested", Due.INDEX, x -> x.rested(8));
            edges.refused("restedAnew", Due.INDEX, x -> x.restedAnew(8));
            edges.refused("bill", Due.INDEX, x -> x.bill(12));
            edges.refused("ofPilot", Due.INDEX, x -> x.ofPilot(0, 4));
            edges.refused("count", Due.ARGUMENT, x -> x.count(8));
        }
    }

    @Says(promise = 0, value = "If several apply, the one that the throws clause names first is thrown.")
    static void p00_theFirstOfSeveralWhereThereIsRoom(Due due) {
        Edges calling = new Edges(due, Harbour::oneCalling);
        calling.refused("call: no ship, wish", Due.INDEX, x -> x.call(1, -1));
        calling.refused("call: no ship, wish too late", Due.INDEX, x -> x.call(-1, 20001));
        calling.refused("window: no ship, from", Due.INDEX, x -> x.window(1, -1));
        calling.refused("window: no ship, from too late", Due.INDEX, x -> x.window(-1, 20001));
        calling.refused("why: no conference, minute", Due.INDEX, x -> x.why(1, -1));
        calling.refused("why: no conference, minute too late", Due.INDEX, x -> x.why(-1, 21441));
        calling.refused("why: minute, no pilot", Due.ARGUMENT, x -> x.why(0, -1));
        calling.refused("why: minute too late, no pilot", Due.ARGUMENT, x -> x.why(0, 21441));
        calling.refused("drop: who, nobody is in it", Due.INDEX, x -> x.drop(0, 3));
        calling.refused("join: no conference, who, pilot", Due.INDEX, x -> x.join(1, 3, 1));
    }

    @Says(promise = 0, value = "If several apply, the one that the throws clause names first is thrown.")
    static void p00_theFirstOfSeveralWhereAllIsFull(Due due) {
        Edges full = new Edges(due, Harbour::crowded);
        full.refused("ship: draught, 12", Due.ARGUMENT, x -> x.ship(401, 10, 10, 0));
        full.refused("ship: tons, 12", Due.ARGUMENT, x -> x.ship(50, 10000, 10, 0));
        full.refused("ship: minutes, 12", Due.ARGUMENT, x -> x.ship(50, 10, 121, 0));
        full.refused("ship: tugs, 12", Due.ARGUMENT, x -> x.ship(50, 10, 10, 4));
        full.refused("pilot: licence, 8", Due.ARGUMENT, x -> x.pilot(10000, 5));
        full.refused("pilot: rate, 8", Due.ARGUMENT, x -> x.pilot(10, 51));
        full.refused("call: no ship, 40", Due.INDEX, x -> x.call(12, 0));
        full.refused("call: no ship, wish, 40", Due.INDEX, x -> x.call(12, -1));
        full.refused("call: wish, 40", Due.ARGUMENT, x -> x.call(0, -1));
        full.refused("call: wish too late, 40", Due.ARGUMENT, x -> x.call(11, 20001));
        full.refused("call: 40 alone", Due.STATE, x -> x.call(11, 20000));
    }

    @Says(promise = 0, value = "If several apply, the one that the throws clause names first is thrown.")
    static void p00_theFirstOfSeveralWhereItIsDone(Due due) {
        Edges.Made late = () -> {
            Harbour h = Harbour.oneDone();
            h.x.pilot(9, 1);
            h.passTo(20000);
            return h;
        };
        Edges done = new Edges(due, late);
        done.refused("join: no pilot, one is in it", Due.INDEX, x -> x.join(0, PILOT, 2));
        done.refused("join: no pilot below 0, one is in it", Due.INDEX, x -> x.join(0, PILOT, -1));
        done.refused("join: one is in it, the licence", Due.STATE, x -> x.join(0, PILOT, 1));
        done.refused("join: who, all are in it", Due.INDEX, x -> x.join(0, 3, 0));
        done.refused("drop: who, DONE", Due.INDEX, x -> x.drop(0, -1));
        done.refused("drop: no conference, who", Due.INDEX, x -> x.drop(1, 3));
        done.refused("pass: minutes, above 20000", Due.ARGUMENT, x -> x.pass(2001));
        done.refused("pass: the most minutes, above 20000", Due.ARGUMENT, x -> x.pass(Integer.MAX_VALUE));
        done.refused("pass: above 20000 alone", Due.STATE, x -> x.pass(2000));
        done.refused("call: no ship, wish", Due.INDEX, x -> x.call(1, 19999));
        done.refused("why: no conference, minute", Due.INDEX, x -> x.why(1, 19999));
    }

    @Says(promise = 0, value = "`NONE = -1`: There is none.")
    static void p00_none(Due due) {
        due.same("NONE", -1, () -> HarbourPilotline.NONE);
    }

    @Says(promise = 0, value = "`SHIP = 0, TOWER = 1, PILOT = 2`: Who joins.")
    static void p00_whoJoins(Due due) {
        due.same("SHIP", 0, () -> HarbourPilotline.SHIP);
        due.same("TOWER", 1, () -> HarbourPilotline.TOWER);
        due.same("PILOT", 2, () -> HarbourPilotline.PILOT);
    }

    @Says(promise = 0, value = "`CALLING = 0, JOINED = 1, SET = 2, ABOARD = 3, DONE = 4`: What conferences are.")
    static void p00_whatConferencesAre(Due due) {
        int[] constants = {HarbourPilotline.CALLING, HarbourPilotline.JOINED, HarbourPilotline.SET,
            HarbourPilotline.ABOARD, HarbourPilotline.DONE};
        Edges.Made[] all = Harbour.states();
        for (int state = 0; state < 5; state++) {
            Harbour h = all[state].harbour();
            due.same("the constant " + state, state, () -> h.state(0));
            if (constants[state] != state) {
                due.tell("the constant is " + constants[state] + ", due is " + state);
            }
        }
    }

    @Says(promise = 0, value = "`DOES = 0, TIDE = 1, RESTS = 2, TUGS = 3, CHANNEL = 4`: Why a minute does not do.")
    static void p00_whyAMinuteDoesNotDo(Due due) {
        due.same("DOES", 0, () -> HarbourPilotline.DOES);
        due.same("TIDE", 1, () -> HarbourPilotline.TIDE);
        due.same("RESTS", 2, () -> HarbourPilotline.RESTS);
        due.same("TUGS", 3, () -> HarbourPilotline.TUGS);
        due.same("CHANNEL", 4, () -> HarbourPilotline.CHANNEL);
    }
}
