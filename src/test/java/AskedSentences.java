/** A test for each sentence of the promises 11 to 20: what is asked. */
final class AskedSentences {
    private static final int SHIP = HarbourPilotline.SHIP;
    private static final int TOWER = HarbourPilotline.TOWER;
    private static final int PILOT = HarbourPilotline.PILOT;

    private AskedSentences() {
    }

    @Says(promise = 11, value = "Returns the minute.")
    static void p11_returnsTheMinute(Due due) {
        Harbour h = new Harbour();
        due.same("the first", 0, h.x::minute);
        h.x.pass(1);
        due.same("the next", 1, h.x::minute);
        h.x.pass(2000);
        due.same("2000 later", 2001, h.x::minute);
        h.passTo(20000);
        due.same("the last", 20000, h.x::minute);
    }

    @Says(promise = 12, value = "Returns how far the tide is above the depth of the channel.")
    static void p12_howFarAboveTheDepth(Due due) {
        HarbourPilotline x = new HarbourPilotline();
        due.same("at first", 20, () -> x.level(180));
        x.tide(300, 200);
        due.same("by the rise", 100, () -> x.level(180));
        x.tide(10, 200);
        due.same("the depth does not matter", 100, () -> x.level(180));
        x.pass(180);
        due.same("what is now does not matter", 100, () -> x.level(180));
    }

    @Says(promise = 12, value = "`minute`: 0 to 30000")
    static void p12_minute0To30000(Due due) {
        Edges edges = new Edges(due, Harbour::oneSet);
        edges.range("minute", 0, 30000, Due.ARGUMENT, HarbourPilotline::level);
        new Edges(due, () -> {
            Harbour h = new Harbour();
            h.passTo(20000);
            return h;
        }).range("at the last minute, minute", 0, 30000, Due.ARGUMENT, HarbourPilotline::level);
    }

    @Says(promise = 12, value = "Returns how far.")
    static void p12_returnsHowFar(Due due) {
        HarbourPilotline x = new HarbourPilotline();
        x.tide(100, 200);
        int[][] levels = {{0, 0}, {1, 0}, {2, 1}, {359, 199}, {360, 200}, {361, 199}, {718, 1}, {719, 0}, {720, 0},
            {721, 0}, {722, 1}, {20000, 88}, {29999, 133}, {30000, 133}};
        for (int[] pair : levels) {
            due.same("level(" + pair[0] + ")", pair[1], () -> x.level(pair[0]));
        }
    }

    @Says(promise = 12, value = "Throws `IllegalArgumentException` if minute is out of range")
    static void p12_throwsIfMinuteIsOut(Due due) {
        Edges edges = new Edges(due, Harbour::new);
        for (int wrong : new int[] {-1, -720, 30001, 30240, Integer.MIN_VALUE, Integer.MAX_VALUE}) {
            edges.refused("minute " + wrong, Due.ARGUMENT, x -> x.level(wrong));
        }
    }

    @Says(promise = 13, value = "Returns the earliest minute from one on at which the tide does for a move of a ship.")
    static void p13_theEarliestMinute(Due due) {
        HarbourPilotline x = new HarbourPilotline();
        x.ship(91, 1, 10, 3);
        int[][] rows = {{0, 9}, {8, 9}, {9, 9}, {10, 10}, {702, 702}, {703, 729}, {728, 729}, {729, 729}};
        for (int[] row : rows) {
            due.same("from " + row[0], row[1], () -> x.window(0, row[0]));
        }
        x.tugs(0);
        due.same("tugs do not matter", 9, () -> x.window(0, 0));
        x.pass(2000);
        due.same("nor does what is now", 9, () -> x.window(0, 0));
    }

    @Says(promise = 13, value = "`ship`: the ship")
    static void p13_theShip(Due due) {
        new Edges(due, Harbour::oneSet).range("ship", 0, 0, Due.INDEX, (x, i) -> x.window(i, 0));
        new Edges(due, Harbour::crowded).range("ship", 0, 11, Due.INDEX, (x, i) -> x.window(i, 0));
    }

    @Says(promise = 13, value = "`from`: 0 to 20000")
    static void p13_from0To20000(Due due) {
        for (int now : new int[] {0, 20000}) {
            new Edges(due, () -> {
                Harbour h = Harbour.deep();
                h.ship(10, 0);
                h.passTo(now);
                return h;
            }).range("now " + now + ", from", 0, 20000, Due.ARGUMENT, (x, from) -> x.window(0, from));
        }
    }

    @Says(promise = 13, value = "Returns the minute;")
    static void p13_returnsTheMinute(Due due) {
        HarbourPilotline x = new HarbourPilotline();
        x.ship(90, 1, 120, 0);
        x.ship(129, 1, 19, 0);
        due.same("the first minute", 0, () -> x.window(0, 0));
        due.same("the last that is asked from", 20000, () -> x.window(0, 20000));
        due.same("behind the last minute", 20511, () -> x.window(1, 20000));
        due.same("the farthest behind", 1071, () -> x.window(1, 352));
    }

    @Says(promise = 13, value = "NONE if there is none within 1440 minutes behind that.")
    static void p13_noneWithin1440(Due due) {
        HarbourPilotline x = new HarbourPilotline();
        x.ship(129, 1, 20, 0);
        x.ship(130, 1, 10, 0);
        x.ship(400, 1, 120, 0);
        for (int from : new int[] {0, 1, 341, 360, 719, 20000}) {
            for (int i = 0; i < 3; i++) {
                int ship = i;
                due.same("ship " + i + " from " + from, -1, () -> x.window(ship, from));
            }
        }
        x.tide(300, 0);
        due.same("a deeper channel", 0, () -> x.window(0, 0));
        due.same("not deep enough", -1, () -> x.window(2, 0));
    }

    @Says(promise = 13, value = "Throws `IndexOutOfBoundsException` if there is no such ship")
    static void p13_throwsIfThereIsNoSuchShip(Due due) {
        new Edges(due, Harbour::new).refused("none at all", Due.INDEX, x -> x.window(0, 0));
        Edges edges = new Edges(due, Harbour::oneSet);
        for (int wrong : new int[] {-1, 1, 12, Integer.MIN_VALUE, Integer.MAX_VALUE}) {
            edges.refused("ship " + wrong, Due.INDEX, x -> x.window(wrong, 0));
        }
        new Edges(due, Harbour::crowded).refused("a thirteenth", Due.INDEX, x -> x.window(12, 0));
    }

    @Says(promise = 13, value = "Throws `IllegalArgumentException` if from is out of range")
    static void p13_throwsIfFromIsOut(Due due) {
        Edges edges = new Edges(due, Harbour::oneAboard);
        for (int wrong : new int[] {-1, -720, 20001, 21440, Integer.MIN_VALUE, Integer.MAX_VALUE}) {
            edges.refused("from " + wrong, Due.ARGUMENT, x -> x.window(0, wrong));
        }
    }

    @Says(promise = 14, value = "Tells of a conference.")
    static void p14_tellsOfAConference(Due due) {
        Harbour h = Harbour.deep();
        h.ships(2);
        h.pilots(2);
        h.full(1, 20, 1);
        h.x.call(0, 20);
        int[][] rows = {{2, 20, 1, 3, 1}, {0, -1, -1, 0, 0}};
        for (int i = 0; i < 2; i++) {
            for (int j = 0; j < 5; j++) {
                int conference = i;
                int what = j;
                due.same("ofConference(" + i + ", " + j + ")", rows[i][j], () -> h.x.ofConference(conference, what));
            }
        }
    }

    @Says(promise = 14, value = "`conference`: its number")
    static void p14_itsNumber(Due due) {
        new Edges(due, Harbour::oneSet).range("conference", 0, 0, Due.INDEX, (x, i) -> x.ofConference(i, 0));
        new Edges(due, Harbour::crowded).range("conference", 0, 39, Due.INDEX, (x, i) -> x.ofConference(i, 0));
    }

    @Says(promise = 14, value = "`what`: 0 CALLING to DONE, 1 its slot, NONE without one, 2 its pilot, NONE as long as"
            + " none is in it, 3 how many are in it, 4 its ship")
    static void p14_what0To4(Due due) {
        new Edges(due, Harbour::oneSet).range("what", 0, 4, Due.INDEX, (x, what) -> x.ofConference(0, what));
        int[][] rows = {{0, -1, -1, 0, 0}, {1, -1, 0, 3, 0}, {2, 20, 0, 3, 0}, {3, 20, 0, 3, 0}, {4, 20, 0, 3, 0}};
        Edges.Made[] all = Harbour.states();
        for (int state = 0; state < 5; state++) {
            Harbour h = all[state].harbour();
            for (int j = 0; j < 5; j++) {
                int what = j;
                due.same("state " + state + ", what " + j, rows[state][j], () -> h.x.ofConference(0, what));
            }
        }
    }

    @Says(promise = 14, value = "Returns as told.")
    static void p14_asTold(Due due) {
        Harbour h = Harbour.oneCalling();
        h.x.join(0, PILOT, 0);
        due.same("its pilot while it is CALLING", 0, () -> h.x.ofConference(0, 2));
        due.same("one is in it", 1, () -> h.x.ofConference(0, 3));
        h.x.join(0, SHIP, 0);
        due.same("two are in it", 2, () -> h.x.ofConference(0, 3));
        h.x.drop(0, PILOT);
        due.same("its pilot is out", -1, () -> h.x.ofConference(0, 2));
        due.same("one is left", 1, () -> h.x.ofConference(0, 3));
        Harbour first = Harbour.deep();
        first.ship(10, 0);
        first.pilot();
        first.full(0, 0, 0);
        due.same("the slot 0", 0, () -> first.x.ofConference(0, 1));
    }

    @Says(promise = 14, value = "Throws `IndexOutOfBoundsException` if there is no such conference, or what is out of"
            + " range")
    static void p14_throwsIfThereIsNoSuchOne(Due due) {
        new Edges(due, Harbour::new).refused("none at all", Due.INDEX, x -> x.ofConference(0, 0));
        Edges edges = new Edges(due, Harbour::oneDone);
        for (int wrong : new int[] {-1, 1, 40, Integer.MIN_VALUE, Integer.MAX_VALUE}) {
            edges.refused("conference " + wrong, Due.INDEX, x -> x.ofConference(wrong, 4));
        }
        for (int wrong : new int[] {-1, 5, 6, Integer.MIN_VALUE, Integer.MAX_VALUE}) {
            edges.refused("what " + wrong, Due.INDEX, x -> x.ofConference(0, wrong));
            edges.refused("no conference, what " + wrong, Due.INDEX, x -> x.ofConference(1, wrong));
        }
    }

    @Says(promise = 15, value = "Returns why a move can not begin at a minute; its own slot, its wish, and what it is"
            + " do not matter.")
    static void p15_itsOwnSlotWishAndStateDoNotMatter(Due due) {
        Edges.Made[] all = Harbour.states();
        for (int state = 0; state < 5; state++) {
            Harbour h = all[state].harbour();
            if (state == 0) {
                h.x.join(0, PILOT, 0);
            }
            int now = h.x.minute();
            for (int minute : new int[] {now, now + 1, now + 19, now + 20, now + 89, 21440}) {
                due.same("state " + state + ", at " + minute, 0, () -> h.x.why(0, minute));
            }
            h.x.tugs(0);
            due.same("state " + state + ", no tugs", 3, () -> h.x.why(0, now));
        }
        Harbour wish = Harbour.deep();
        wish.ship(10, 0);
        wish.pilot();
        wish.x.call(0, 20000);
        wish.x.join(0, PILOT, 0);
        due.same("ahead of its wish", 0, () -> wish.x.why(0, 0));
        due.same("more than 1440 behind", 0, () -> wish.x.why(0, 21440));
    }

    @Says(promise = 15, value = "`conference`: its number")
    static void p15_itsNumber(Due due) {
        new Edges(due, Harbour::oneSet).range("conference", 0, 0, Due.INDEX, (x, i) -> x.why(i, 0));
    }

    @Says(promise = 15, value = "`minute`: now to 21440")
    static void p15_minuteNowTo21440(Due due) {
        for (int now : new int[] {0, 1, 19, 20, 30, 19999, 20000}) {
            new Edges(due, () -> {
                Harbour h = Harbour.oneSet();
                h.passTo(now);
                return h;
            }).range("now " + now + ", minute", now, 21440, Due.ARGUMENT, (x, minute) -> x.why(0, minute));
        }
    }

    @Says(promise = 15, value = "Returns TIDE, RESTS, TUGS or CHANNEL, the first that does not do;")
    static void p15_theFirstThatDoesNotDo(Due due) {
        for (int wrongs = 0; wrongs < 16; wrongs++) {
            // Each of the four may be wrong at minute 100, and the first of those that are is told.
            boolean tide = (wrongs & 1) != 0;
            boolean rests = (wrongs & 2) != 0;
            boolean tugs = (wrongs & 4) != 0;
            boolean channel = (wrongs & 8) != 0;
            Harbour h = Harbour.deep();
            h.ship(10, 1);
            h.pilots(2);
            h.full(0, channel ? 100 : 115, rests ? 0 : 1);
            h.x.call(0, 0);
            h.x.join(1, PILOT, 0);
            if (tide) {
                h.x.tide(10, 0);
            }
            if (tugs) {
                h.x.tugs(0);
            }
            int first = tide ? 1 : rests ? 2 : tugs ? 3 : channel ? 4 : 0;
            due.same("wrong are " + wrongs, first, () -> h.x.why(1, 100));
        }
    }

    @Says(promise = 15, value = "DOES, if all do.")
    static void p15_doesIfAllDo(Due due) {
        Harbour h = Harbour.oneSet();
        h.x.call(0, 0);
        h.x.join(1, PILOT, 0);
        int[][] rows = {{0, 2}, {89, 2}, {90, 0}, {91, 0}, {20000, 0}, {21440, 0}};
        for (int[] row : rows) {
            due.same("at " + row[0], row[1], () -> h.x.why(1, row[0]));
        }
        Harbour tide = new Harbour();
        tide.x.ship(91, 10, 10, 0);
        tide.pilot();
        tide.calls(1);
        tide.x.join(0, PILOT, 0);
        int[][] edges = {{8, 1}, {9, 0}, {702, 0}, {703, 1}, {21440, 0}};
        for (int[] row : edges) {
            due.same("the tide at " + row[0], row[1], () -> tide.x.why(0, row[0]));
        }
    }

    @Says(promise = 15, value = "Throws `IndexOutOfBoundsException` if there is no such conference")
    static void p15_throwsIfThereIsNoSuchConference(Due due) {
        new Edges(due, Harbour::new).refused("none at all", Due.INDEX, x -> x.why(0, 0));
        Edges edges = new Edges(due, Harbour::oneSet);
        for (int wrong : new int[] {-1, 1, 40, Integer.MIN_VALUE, Integer.MAX_VALUE}) {
            edges.refused("conference " + wrong, Due.INDEX, x -> x.why(wrong, 0));
        }
        new Edges(due, Harbour::crowded).refused("a forty-first", Due.INDEX, x -> x.why(40, 0));
    }

    @Says(promise = 15, value = "Throws `IllegalArgumentException` if minute is out of range")
    static void p15_throwsIfMinuteIsOut(Due due) {
        Edges edges = new Edges(due, Harbour::oneAboard);
        for (int wrong : new int[] {19, 0, -1, 21441, 30000, Integer.MIN_VALUE, Integer.MAX_VALUE}) {
            edges.refused("now 20, minute " + wrong, Due.ARGUMENT, x -> x.why(0, wrong));
        }
    }

    @Says(promise = 15, value = "Throws `IllegalStateException` if no pilot is in it")
    static void p15_throwsIfNoPilotIsInIt(Due due) {
        Edges nobody = new Edges(due, Harbour::oneCalling);
        nobody.refused("nobody is", Due.STATE, x -> x.why(0, 0));
        nobody.refused("nobody is, the last minute", Due.STATE, x -> x.why(0, 21440));
        Edges nothingDoes = new Edges(due, () -> {
            Harbour h = Harbour.oneCalling();
            h.full(0, 0, 0);
            h.x.tide(10, 0);
            h.x.tugs(0);
            return h;
        });
        nothingDoes.refused("nobody is, and the minute does not do", Due.STATE, x -> x.why(0, 0));
        Edges others = new Edges(due, () -> {
            Harbour h = Harbour.oneSet();
            h.x.drop(0, PILOT);
            return h;
        });
        others.refused("the ship and the tower are", Due.STATE, x -> x.why(0, 0));
        Edges alone = new Edges(due, () -> {
            Harbour h = Harbour.oneCalling();
            h.x.join(0, PILOT, 0);
            return h;
        });
        alone.accepted("the pilot alone is", x -> x.why(0, 0));
    }

    /** Both say the same of all pilots: so each row is for both. */
    private static void both(Due due, String told, Harbour h, int pilot, int want) {
        due.same(told + ", rested(" + pilot + ")", want, () -> h.x.rested(pilot));
        due.same(told + ", restedAnew(" + pilot + ")", want, () -> h.x.restedAnew(pilot));
    }

    @Says(promise = 16, value = "Returns from which minute on a pilot may begin a move, behind all slots that the pilot"
            + " has.")
    static void p16_behindAllSlots(Due due) {
        int[][] rows = {{10, 170}, {59, 219}, {60, 220}, {61, 222}, {120, 340}};
        for (int[] row : rows) {
            Harbour h = Harbour.deep();
            h.ship(row[0], 0);
            h.ship(10, 0);
            h.pilots(2);
            h.full(0, 100, 0);
            String told = row[0] + " minutes at 100";
            both(due, told, h, 0, row[1]);
            both(due, told, h, 1, 0);
            h.x.call(1, 0);
            h.x.join(1, PILOT, 0);
            due.same(told + ", a minute ahead of it", 2, () -> h.x.why(1, row[1] - 1));
            due.same(told + ", then", 0, () -> h.x.why(1, row[1]));
        }
        Harbour two = Harbour.deep();
        two.ship(10, 0);
        two.pilot();
        two.full(0, 1000, 0);
        two.full(0, 100, 0);
        both(due, "behind the last of two, not the newest", two, 0, 1070);
    }

    @Says(promise = 16, value = "`pilot`: the pilot")
    static void p16_thePilot(Due due) {
        new Edges(due, Harbour::oneSet).range("pilot", 0, 0, Due.INDEX, HarbourPilotline::rested);
        new Edges(due, Harbour::crowded).range("pilot", 0, 7, Due.INDEX, HarbourPilotline::rested);
    }

    @Says(promise = 16, value = "Returns the minute, at least now.")
    static void p16_atLeastNow(Due due) {
        Harbour h = Harbour.oneSet();
        h.pilot();
        int[][] rows = {{0, 90}, {20, 90}, {30, 90}, {89, 90}, {90, 90}, {91, 91}, {20000, 20000}};
        for (int[] row : rows) {
            h.passTo(row[0]);
            both(due, "now " + row[0], h, 0, row[1]);
            both(due, "no slot, now " + row[0], h, 1, row[0]);
        }
    }

    @Says(promise = 16, value = "Throws `IndexOutOfBoundsException` if there is no such pilot")
    static void p16_throwsIfThereIsNoSuchPilot(Due due) {
        new Edges(due, Harbour::new).refused("none at all", Due.INDEX, x -> x.rested(0));
        Edges edges = new Edges(due, Harbour::oneSet);
        for (int wrong : new int[] {-1, 1, 8, Integer.MIN_VALUE, Integer.MAX_VALUE}) {
            edges.refused("pilot " + wrong, Due.INDEX, x -> x.rested(wrong));
        }
    }

    @Says(promise = 17, value = "Returns the same, found from all boardings so far, and slots that are SET, one by"
            + " one.")
    static void p17_fromAllBoardingsAndSlotsThatAreSet(Due due) {
        Harbour calling = Harbour.oneCalling();
        calling.x.join(0, PILOT, 0);
        calling.x.join(0, SHIP, 0);
        both(due, "CALLING", calling, 0, 0);
        both(due, "JOINED", Harbour.oneJoined(), 0, 0);
        both(due, "SET", Harbour.oneSet(), 0, 90);
        both(due, "ABOARD", Harbour.oneAboard(), 0, 90);
        both(due, "DONE", Harbour.oneDone(), 0, 90);
        Harbour gone = Harbour.oneSet();
        gone.x.drop(0, TOWER);
        both(due, "a slot that is gone", gone, 0, 0);
        Harbour mixed = Harbour.oneDone();
        mixed.full(0, 30, 0);
        both(due, "DONE, then SET", mixed, 0, 160);
        mixed.x.drop(1, TOWER);
        both(due, "DONE alone again", mixed, 0, 90);
        mixed.x.join(1, TOWER, 0);
        mixed.x.pass(60);
        both(due, "DONE and ABOARD", mixed, 0, 160);
    }

    @Says(promise = 17, value = "`pilot`: the pilot")
    static void p17_thePilot(Due due) {
        new Edges(due, Harbour::oneSet).range("pilot", 0, 0, Due.INDEX, HarbourPilotline::restedAnew);
        new Edges(due, Harbour::crowded).range("pilot", 0, 7, Due.INDEX, HarbourPilotline::restedAnew);
    }

    @Says(promise = 17, value = "Returns the minute, at least now.")
    static void p17_atLeastNow(Due due) {
        int[][] rows = {{29, 100}, {99, 100}, {100, 100}, {101, 101}, {19999, 19999}, {20000, 20000}};
        for (int[] row : rows) {
            Harbour h = Harbour.deep();
            h.ship(20, 0);
            h.pilots(2);
            h.full(0, 20, 0);
            h.passTo(row[0]);
            due.same("now " + row[0], row[1], () -> h.x.restedAnew(0));
            due.same("no slot, now " + row[0], row[0], () -> h.x.restedAnew(1));
        }
    }

    @Says(promise = 17, value = "Throws `IndexOutOfBoundsException` if there is no such pilot")
    static void p17_throwsIfThereIsNoSuchPilot(Due due) {
        new Edges(due, Harbour::new).refused("none at all", Due.INDEX, x -> x.restedAnew(0));
        Edges edges = new Edges(due, Harbour::oneSet);
        for (int wrong : new int[] {-1, 1, 8, Integer.MIN_VALUE, Integer.MAX_VALUE}) {
            edges.refused("pilot " + wrong, Due.INDEX, x -> x.restedAnew(wrong));
        }
    }

    @Says(promise = 18, value = "Returns what a ship owes so far.")
    static void p18_whatAShipOwesSoFar(Due due) {
        Harbour h = Harbour.deep();
        h.ship(10, 1);
        h.ship(120, 0);
        h.x.pilot(10, 1);
        h.x.pilot(10, 50);
        h.full(0, 20, 0);
        h.full(0, 100, 1);
        h.full(1, 40, 1);
        int[][] rows = {
            // now, both bills; the third move waits for pilot 1 until 170, and is over at 290
            {0, 0, 0}, {29, 0, 0}, {30, 110, 0}, {109, 110, 0}, {110, 710, 0}, {289, 710, 0}, {290, 710, 6000},
            {20000, 710, 6000}};
        for (int[] row : rows) {
            h.passTo(row[0]);
            due.same("bill(0) at " + row[0], row[1], () -> h.x.bill(0));
            due.same("bill(1) at " + row[0], row[2], () -> h.x.bill(1));
        }
    }

    @Says(promise = 18, value = "`ship`: the ship")
    static void p18_theShip(Due due) {
        new Edges(due, Harbour::oneDone).range("ship", 0, 0, Due.INDEX, HarbourPilotline::bill);
        new Edges(due, Harbour::crowded).range("ship", 0, 11, Due.INDEX, HarbourPilotline::bill);
    }

    @Says(promise = 18, value = "Returns how much.")
    static void p18_returnsHowMuch(Due due) {
        Edges.Made[] all = {Harbour::oneCalling, Harbour::oneJoined, Harbour::oneSet, Harbour::oneAboard};
        for (int state = 0; state < 4; state++) {
            Harbour h = all[state].harbour();
            due.same("nothing in state " + state, 0, () -> h.x.bill(0));
        }
        Harbour done = Harbour.oneDone();
        due.same("DONE", 150, () -> done.x.bill(0));
        Harbour most = Harbour.deep();
        most.x.ship(290, 9999, 120, 3);
        most.x.pilot(9999, 50);
        most.full(0, 0, 0);
        most.x.pass(120);
        due.same("the most for a move", 6300, () -> most.x.bill(0));
    }

    @Says(promise = 18, value = "Throws `IndexOutOfBoundsException` if there is no such ship")
    static void p18_throwsIfThereIsNoSuchShip(Due due) {
        new Edges(due, Harbour::new).refused("none at all", Due.INDEX, x -> x.bill(0));
        Edges edges = new Edges(due, Harbour::oneDone);
        for (int wrong : new int[] {-1, 1, 12, Integer.MIN_VALUE, Integer.MAX_VALUE}) {
            edges.refused("ship " + wrong, Due.INDEX, x -> x.bill(wrong));
        }
    }

    @Says(promise = 19, value = "Tells of a pilot.")
    static void p19_tellsOfAPilot(Due due) {
        Harbour h = Harbour.oneDone();
        h.pilot();
        int[][] rows = {{1, 10, 0, 50}, {0, 0, 0, 0}};
        for (int i = 0; i < 2; i++) {
            for (int j = 0; j < 4; j++) {
                int pilot = i;
                int what = j;
                due.same("ofPilot(" + i + ", " + j + ")", rows[i][j], () -> h.x.ofPilot(pilot, what));
            }
        }
    }

    @Says(promise = 19, value = "`pilot`: the pilot")
    static void p19_thePilot(Due due) {
        new Edges(due, Harbour::oneDone).range("pilot", 0, 0, Due.INDEX, (x, i) -> x.ofPilot(i, 0));
        new Edges(due, Harbour::crowded).range("pilot", 0, 7, Due.INDEX, (x, i) -> x.ofPilot(i, 0));
    }

    @Says(promise = 19, value = "`what`: 0 how many moves of that one are DONE, 1 how many minutes aboard these took, 2"
            + " whether that one is aboard, 1 or 0, 3 the minutes of 1 times the rate: what ships owe for that one,"
            + " without the tugs")
    static void p19_what0To3(Due due) {
        new Edges(due, Harbour::oneDone).range("what", 0, 3, Due.INDEX, (x, what) -> x.ofPilot(0, what));
        Harbour h = Harbour.deep();
        h.ship(10, 3);
        h.ship(120, 2);
        h.x.pilot(10, 7);
        h.full(0, 20, 0);
        h.full(1, 20, 0);
        int[][] rows = {
            // now; the second move goes from 90 to 209
            {0, 0, 0, 0, 0}, {19, 0, 0, 0, 0}, {20, 0, 0, 1, 0}, {29, 0, 0, 1, 0}, {30, 1, 10, 0, 70},
            {89, 1, 10, 0, 70}, {90, 1, 10, 1, 70}, {209, 1, 10, 1, 70}, {210, 2, 130, 0, 910},
            {20000, 2, 130, 0, 910}};
        for (int[] row : rows) {
            h.passTo(row[0]);
            for (int j = 0; j < 4; j++) {
                int what = j;
                due.same("what " + j + " at " + row[0], row[1 + j], () -> h.x.ofPilot(0, what));
            }
        }
        due.same("bills have the tugs too", 910 + 500, () -> h.x.bill(0) + h.x.bill(1));
    }

    @Says(promise = 19, value = "Returns as told.")
    static void p19_asTold(Due due) {
        Edges.Made[] all = Harbour.states();
        int[][] rows = {{0, 0, 0, 0}, {0, 0, 0, 0}, {0, 0, 0, 0}, {0, 0, 1, 0}, {1, 10, 0, 50}};
        for (int state = 0; state < 5; state++) {
            Harbour h = all[state].harbour();
            for (int j = 0; j < 4; j++) {
                int what = j;
                due.same("state " + state + ", what " + j, rows[state][j], () -> h.x.ofPilot(0, what));
            }
        }
    }

    @Says(promise = 19, value = "Throws `IndexOutOfBoundsException` if there is no such pilot, or what is out of range")
    static void p19_throwsIfThereIsNoSuchOne(Due due) {
        new Edges(due, Harbour::new).refused("none at all", Due.INDEX, x -> x.ofPilot(0, 0));
        Edges edges = new Edges(due, Harbour::oneAboard);
        for (int wrong : new int[] {-1, 1, 8, Integer.MIN_VALUE, Integer.MAX_VALUE}) {
            edges.refused("pilot " + wrong, Due.INDEX, x -> x.ofPilot(wrong, 3));
        }
        for (int wrong : new int[] {-1, 4, 5, Integer.MIN_VALUE, Integer.MAX_VALUE}) {
            edges.refused("what " + wrong, Due.INDEX, x -> x.ofPilot(0, wrong));
            edges.refused("no pilot, what " + wrong, Due.INDEX, x -> x.ofPilot(1, wrong));
        }
    }

    @Says(promise = 20, value = "Counts something.")
    static void p20_countsSomething(Due due) {
        Harbour h = Harbour.oneDone();
        int[] counts = {0, 0, 0, 0, 1, 0, 150, 0};
        for (int what = 0; what <= 7; what++) {
            int asked = what;
            due.same("count(" + what + ")", counts[what], () -> h.x.count(asked));
        }
    }

    @Says(promise = 20, value = "`what`: 0 to 4: conferences that are CALLING to DONE;")
    static void p20_what0To4(Due due) {
        Edges.Made[] all = Harbour.states();
        for (int state = 0; state < 5; state++) {
            Harbour h = all[state].harbour();
            for (int what = 0; what < 5; what++) {
                int asked = what;
                due.same("state " + state + ", count(" + what + ")", what == state ? 1 : 0, () -> h.x.count(asked));
            }
        }
        Harbour none = new Harbour();
        Harbour full = Harbour.crowded();
        for (int what = 0; what < 5; what++) {
            int asked = what;
            due.same("of none, count(" + what + ")", 0, () -> none.x.count(asked));
            due.same("of forty, count(" + what + ")", what == 0 ? 40 : 0, () -> full.x.count(asked));
        }
    }

    @Says(promise = 20, value = "5 tugs that are out now,")
    static void p20_tugsThatAreOutNow(Due due) {
        Harbour h = Harbour.deep();
        h.ship(20, 3);
        h.ship(20, 2);
        h.pilots(2);
        h.full(0, 20, 0);
        h.full(1, 20, 1);
        int[][] rows = {{0, 0}, {19, 0}, {20, 3}, {34, 3}, {35, 5}, {39, 5}, {40, 2}, {54, 2}, {55, 0}};
        for (int[] row : rows) {
            h.passTo(row[0]);
            due.same("at " + row[0], row[1], () -> h.x.count(5));
        }
    }

    @Says(promise = 20, value = "6 all bills,")
    static void p20_allBills(Due due) {
        Harbour h = Harbour.deep();
        h.ship(10, 1);
        h.ship(10, 2);
        h.pilots(2);
        h.full(0, 20, 0);
        h.full(1, 20, 1);
        h.full(0, 200, 0);
        int[][] rows = {{29, 0}, {30, 150}, {44, 150}, {45, 400}, {209, 400}, {210, 550}};
        for (int[] row : rows) {
            h.passTo(row[0]);
            due.same("at " + row[0], row[1], () -> h.x.count(6));
            due.same("both bills at " + row[0], row[1], () -> h.x.bill(0) + h.x.bill(1));
        }
    }

    @Says(promise = 20, value = "7 what drop() told, all together")
    static void p20_whatDropTold(Due due) {
        Harbour h = Harbour.deep();
        h.ship(10, 0);
        h.pilots(3);
        for (int pilot = 0; pilot < 3; pilot++) {
            h.full(0, 20, pilot);
        }
        due.same("none yet", 0, () -> h.x.count(7));
        due.same("two move", 2, () -> h.x.drop(0, TOWER));
        due.same("two", 2, () -> h.x.count(7));
        due.same("one moves", 1, () -> h.x.drop(1, TOWER));
        due.same("two and one", 3, () -> h.x.count(7));
        due.same("none moves", 0, () -> h.x.drop(2, TOWER));
        due.same("no more", 3, () -> h.x.count(7));
        due.thrown("a refused one", Due.STATE, () -> h.x.drop(2, TOWER));
        due.same("no more by that", 3, () -> h.x.count(7));
        h.x.pass(2000);
        due.same("minutes do not matter", 3, () -> h.x.count(7));
    }

    @Says(promise = 20, value = "Returns how many.")
    static void p20_returnsHowMany(Due due) {
        Harbour h = Harbour.deep();
        h.ship(10, 0);
        h.pilots(8);
        for (int i = 0; i < 40; i++) {
            h.full(0, 20, i % 8);
        }
        int[][] rows = {
            // now, how many of forty are SET, ABOARD and DONE; they begin at 20, 35 and so on to 605
            {19, 40, 0, 0}, {20, 39, 1, 0}, {30, 39, 0, 1}, {604, 1, 0, 39}, {605, 0, 1, 39}, {615, 0, 0, 40}};
        for (int[] row : rows) {
            h.passTo(row[0]);
            for (int i = 0; i < 3; i++) {
                int what = 2 + i;
                due.same("count(" + what + ") at " + row[0], row[1 + i], () -> h.x.count(what));
            }
        }
    }

    @Says(promise = 20, value = "Throws `IllegalArgumentException` if what is out of range")
    static void p20_throwsIfWhatIsOut(Due due) {
        new Edges(due, Harbour::new).range("of a new object, what", 0, 7, Due.ARGUMENT, HarbourPilotline::count);
        new Edges(due, Harbour::oneDone).range("what", 0, 7, Due.ARGUMENT, HarbourPilotline::count);
        new Edges(due, Harbour::crowded).range("of a full one, what", 0, 7, Due.ARGUMENT, HarbourPilotline::count);
    }
}
