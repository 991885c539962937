/** A test for each sentence of the promises 1 to 5: what there is. */
final class ThereIsSentences {
    private ThereIsSentences() {
    }

    @Says(promise = 1, value = "The minute 0")
    static void p01_theMinute0(Due due) {
        Harbour h = new Harbour();
        due.same("minute()", 0, h.x::minute);
        h.ship(10, 0);
        h.pilot();
        due.same("the pilot is rested from", 0, () -> h.x.rested(0));
        due.same("a wish of 0", 0, () -> h.x.call(0, 0));
        due.same("a slot at 0", 0, () -> h.fill(0, 0));
        due.same("it is at once ABOARD", 3, () -> h.state(0));
    }

    @Says(promise = 1, value = "nobody")
    static void p01_nobody(Due due) {
        Edges empty = new Edges(due, Harbour::new);
        for (int i : new int[] {-1, 0, 1, Integer.MIN_VALUE, Integer.MAX_VALUE}) {
            empty.refused("call " + i, Due.INDEX, x -> x.call(i, 0));
            empty.refused("window " + i, Due.INDEX, x -> x.window(i, 0));
            empty.refused("bill " + i, Due.INDEX, x -> x.bill(i));
            empty.refused("rested " + i, Due.INDEX, x -> x.rested(i));
            empty.refused("restedAnew " + i, Due.INDEX, x -> x.restedAnew(i));
            empty.refused("ofPilot " + i, Due.INDEX, x -> x.ofPilot(i, 0));
            empty.refused("join " + i, Due.INDEX, x -> x.join(i, 0, 0));
            empty.refused("again " + i, Due.INDEX, x -> x.again(i));
            empty.refused("drop " + i, Due.INDEX, x -> x.drop(i, 0));
            empty.refused("ofConference " + i, Due.INDEX, x -> x.ofConference(i, 0));
            empty.refused("why " + i, Due.INDEX, x -> x.why(i, 0));
        }
        HarbourPilotline x = new HarbourPilotline();
        for (int what = 0; what <= 7; what++) {
            int asked = what;
            due.same("count(" + what + ")", 0, () -> x.count(asked));
        }
        due.same("minutes go by for nobody", 0, () -> x.pass(2000));
        due.same("the first ship", 0, () -> x.ship(50, 10, 10, 0));
        due.same("the first pilot", 0, () -> x.pilot(10, 1));
        due.same("the first conference", 0, () -> x.call(0, 2000));
    }

    @Says(promise = 1, value = "two tugs.")
    static void p01_twoTugs(Due due) {
        Harbour h = new Harbour();
        h.ship(10, 2);
        h.ship(10, 3);
        h.pilots(2);
        h.full(0, 100, 0);
        h.full(1, 300, 1);
        due.same("two do", 100, () -> h.slot(0));
        due.same("three do not", -1, () -> h.slot(1));
        due.same("tugs(2)", 2, () -> new HarbourPilotline().tugs(2));
    }

    @Says(promise = 2, value = "Sets the depth of the channel and the rise of the tide")
    static void p02_setsDepthAndRise(Due due) {
        int[][] rows = {
            // depth, rise, the deepest ship that moves at high water for 10 minutes, level at high water
            {10, 2, 1, 2}, {10, 200, 197, 200}, {11, 0, 1, 0}, {299, 0, 289, 0}, {300, 0, 290, 0},
            {300, 1, 290, 1}, {300, 199, 486, 199}, {300, 200, 487, 200}};
        for (int[] row : rows) {
            String told = "tide(" + row[0] + ", " + row[1] + "): ";
            Harbour h = new Harbour();
            h.x.ship(Math.min(400, row[2]), 1, 10, 0);
            h.x.ship(Math.min(400, row[2] + 1), 1, 10, 0);
            h.x.tide(row[0], row[1]);
            due.same(told + "level(360)", row[3], () -> h.x.level(360));
            due.same(told + "level(0)", 0, () -> h.x.level(0));
            if (row[2] < 400) {
                due.same(told + "it does", 1, () -> h.x.window(0, 0) >= 0 ? 1 : 0);
                due.same(told + "a foot too deep", -1, () -> h.x.window(1, 0));
            }
        }
    }

    @Says(promise = 2, value = "slots that are set stay.")
    static void p02_slotsStay(Due due) {
        Harbour h = Harbour.oneSet();
        h.x.tide(10, 0);
        due.same("its slot", 20, () -> h.slot(0));
        due.same("SET", 2, () -> h.state(0));
        due.same("it could not begin there now", 1, () -> h.x.why(0, 20));
        due.same("nothing is DONE", 0, () -> h.x.pass(20));
        due.same("ABOARD all the same", 3, () -> h.state(0));
        h.x.tide(11, 0);
        due.same("DONE all the same", 1, () -> h.x.pass(10));
        due.same("it owes", 150, () -> h.x.bill(0));
    }

    @Says(promise = 2, value = "slots that are set stay.")
    static void p02_whoHasNoSlotHasNoneBehindIt(Due due) {
        Harbour h = new Harbour();
        h.x.tide(10, 0);
        h.ship(10, 0);
        h.pilot();
        h.full(0, 20, 0);
        h.x.tide(300, 0);
        due.same("no slot", -1, () -> h.slot(0));
        due.same("JOINED", 1, () -> h.state(0));
        due.same("until it looks again", 20, () -> h.x.again(0));
    }

    @Says(promise = 2, value = "`depth`: 10 to 300")
    static void p02_depth10To300(Due due) {
        new Edges(due, Harbour::oneSet).range("depth", 10, 300, Due.ARGUMENT, (x, value) -> {
            x.tide(value, 100);
            return 0;
        });
    }

    @Says(promise = 2, value = "`rise`: 0 to 200")
    static void p02_rise0To200(Due due) {
        new Edges(due, Harbour::oneSet).range("rise", 0, 200, Due.ARGUMENT, (x, value) -> {
            x.tide(100, value);
            return 0;
        });
    }

    @Says(promise = 2, value = "Throws `IllegalArgumentException` if depth or rise is out of range")
    static void p02_throwsIfDepthOrRiseIsOut(Due due) {
        Edges edges = new Edges(due, Harbour::oneCalling);
        int[][] wrong = {{9, 200}, {301, 200}, {10, -1}, {300, 201}, {9, -1}, {301, 201}, {-300, 40}, {100, -40},
            {0, 0}, {Integer.MIN_VALUE, Integer.MIN_VALUE}, {Integer.MAX_VALUE, Integer.MAX_VALUE}};
        for (int[] pair : wrong) {
            edges.refused("tide(" + pair[0] + ", " + pair[1] + ")", Due.ARGUMENT, x -> {
                x.tide(pair[0], pair[1]);
                return 0;
            });
        }
    }

    @Says(promise = 3, value = "Sets how many tugs there are")
    static void p03_setsHowMany(Due due) {
        for (int tugs = 0; tugs <= 6; tugs++) {
            Harbour h = Harbour.deep();
            // Two moves of 120 minutes, 15 minutes apart, have six tugs out from minute 115 to 219.
            h.ship(120, 3);
            h.pilots(3);
            h.full(0, 100, 0);
            h.full(0, 115, 1);
            h.x.tugs(tugs);
            for (int needs = 0; needs <= 3; needs++) {
                int asking = h.x.call(h.ship(10, needs), 0);
                h.x.join(asking, HarbourPilotline.PILOT, 2);
                String told = needs + " of " + tugs + " tugs ";
                due.same(told + "with none out", needs <= tugs ? 0 : 3, () -> h.x.why(asking, 500));
                due.same(told + "with three out", 3 + needs <= tugs ? 0 : 3, () -> h.x.why(asking, 225));
                due.same(told + "with six out", 6 + needs <= tugs ? 0 : 3, () -> h.x.why(asking, 150));
            }
        }
    }

    @Says(promise = 3, value = "slots that are set stay.")
    static void p03_slotsStay(Due due) {
        Harbour h = Harbour.oneSet();
        due.same("tugs(0)", 6, () -> h.x.tugs(0));
        due.same("its slot", 20, () -> h.slot(0));
        due.same("SET", 2, () -> h.state(0));
        due.same("it could not begin there now", 3, () -> h.x.why(0, 20));
        h.x.pass(20);
        due.same("ABOARD all the same", 3, () -> h.state(0));
        due.same("its tug is out", 1, () -> h.x.count(5));
        due.same("DONE all the same", 1, () -> h.x.pass(10));
        due.same("it owes the tug", 150, () -> h.x.bill(0));
        Harbour none = Harbour.oneJoined();
        due.same("who has none has none behind it", -1, () -> none.slot(0));
    }

    @Says(promise = 3, value = "`tugs`: 0 to 6")
    static void p03_tugs0To6(Due due) {
        new Edges(due, Harbour::oneSet).range("tugs", 0, 6, Due.ARGUMENT, (x, value) -> x.tugs(value));
    }

    @Says(promise = 3, value = "Returns that before.")
    static void p03_returnsThatBefore(Due due) {
        HarbourPilotline x = new HarbourPilotline();
        int[][] rows = {{0, 2}, {6, 0}, {6, 6}, {1, 6}, {5, 1}, {0, 5}, {0, 0}};
        for (int[] row : rows) {
            due.same("tugs(" + row[0] + ")", row[1], () -> x.tugs(row[0]));
        }
    }

    @Says(promise = 3, value = "Throws `IllegalArgumentException` if tugs is out of range")
    static void p03_throwsIfTugsIsOut(Due due) {
        HarbourPilotline x = new HarbourPilotline();
        x.tugs(5);
        for (int wrong : new int[] {-1, 7, -5, 100}) {
            due.thrown("tugs(" + wrong + ")", Due.ARGUMENT, () -> x.tugs(wrong));
        }
        due.same("that before is that before the refused ones", 5, () -> x.tugs(1));
    }

    @Says(promise = 4, value = "Tells a ship.")
    static void p04_tellsAShip(Due due) {
        Harbour h = Harbour.deep();
        h.ship(10, 0);
        due.same("it owes nothing", 0, () -> h.x.bill(0));
        due.same("it can be called for", 0, () -> h.x.call(0, 0));
        due.same("nobody is in that", 0, () -> h.x.ofConference(0, 3));
        due.thrown("there is but one", Due.INDEX, () -> h.x.bill(1));
    }

    @Says(promise = 4, value = "`draught`: 1 to 400")
    static void p04_draught1To400(Due due) {
        new Edges(due, Harbour::oneSet).range("draught", 1, 400, Due.ARGUMENT, (x, value) -> x.ship(value, 1, 10, 0));
        HarbourPilotline x = new HarbourPilotline();
        x.ship(1, 1, 10, 0);
        x.ship(400, 1, 10, 0);
        x.tide(11, 0);
        due.same("a draught of 1 at a depth of 11", 0, () -> x.window(0, 0));
        x.tide(10, 0);
        due.same("a draught of 1 at a depth of 10", -1, () -> x.window(0, 0));
        x.tide(300, 200);
        due.same("a draught of 400 at a level of 110", 198, () -> x.window(1, 0));
    }

    @Says(promise = 4, value = "`tons`: 1 to 9999")
    static void p04_tons1To9999(Due due) {
        new Edges(due, Harbour::oneSet).range("tons", 1, 9999, Due.ARGUMENT, (x, value) -> x.ship(50, value, 10, 0));
        Harbour h = Harbour.deep();
        h.x.ship(50, 1, 10, 0);
        h.x.ship(50, 9999, 10, 0);
        h.x.pilot(1, 1);
        h.x.pilot(9998, 1);
        h.x.pilot(9999, 1);
        h.x.call(0, 0);
        h.x.call(1, 0);
        due.same("a ton, a licence of one", -1, () -> h.x.join(0, 2, 0));
        due.thrown("9999 tons, a licence of one", Due.STATE, () -> h.x.join(1, 2, 0));
        due.thrown("9999 tons, a licence of 9998", Due.STATE, () -> h.x.join(1, 2, 1));
        due.same("9999 tons, a licence of 9999", -1, () -> h.x.join(1, 2, 2));
    }

    @Says(promise = 4, value = "`minutes`: 10 to 120: of a move")
    static void p04_minutes10To120(Due due) {
        new Edges(due, Harbour::oneSet).range("minutes", 10, 120, Due.ARGUMENT, (x, value) -> x.ship(50, 1, value, 0));
        for (int minutes : new int[] {10, 11, 119, 120}) {
            Harbour h = Harbour.deep();
            h.ship(minutes, 0);
            h.pilot();
            h.full(0, 0, 0);
            due.same(minutes + " minutes, one is left", 0, () -> h.x.pass(minutes - 1));
            due.same(minutes + " minutes, ABOARD", 3, () -> h.state(0));
            due.same(minutes + " minutes, over", 1, () -> h.x.pass(1));
            due.same(minutes + " minutes, DONE", 4, () -> h.state(0));
        }
    }

    @Says(promise = 4, value = "`tugs`: 0 to 3: that it needs")
    static void p04_tugs0To3(Due due) {
        new Edges(due, Harbour::oneSet).range("tugs", 0, 3, Due.ARGUMENT, (x, value) -> x.ship(50, 1, 10, value));
        for (int needs = 0; needs <= 3; needs++) {
            int tugs = needs;
            Harbour h = Harbour.deep();
            h.ship(10, needs);
            h.pilot();
            h.x.call(0, 0);
            h.x.join(0, HarbourPilotline.PILOT, 0);
            h.x.tugs(needs);
            due.same(needs + " tugs, just so many there", 0, () -> h.x.why(0, 0));
            if (needs > 0) {
                h.x.tugs(needs - 1);
                due.same(needs + " tugs, one too few there", 3, () -> h.x.why(0, 0));
                h.x.tugs(needs);
            }
            h.x.join(0, HarbourPilotline.SHIP, 0);
            h.x.join(0, HarbourPilotline.TOWER, 0);
            due.same(needs + " tugs are out", tugs, () -> h.x.count(5));
            h.x.pass(10);
            due.same(needs + " tugs are owed", 50 + 100 * tugs, () -> h.x.bill(0));
        }
    }

    @Says(promise = 4, value = "Returns its number.")
    static void p04_returnsItsNumber(Due due) {
        Harbour h = Harbour.deep();
        for (int i = 0; i < 12; i++) {
            due.same("the same ship once more is another one", i, () -> h.ship(10, 0));
        }
    }

    @Says(promise = 4,
            value = "Throws `IllegalArgumentException` if draught, tons, minutes or tugs is out of range")
    static void p04_throwsIfOneIsOut(Due due) {
        Edges edges = new Edges(due, Harbour::oneCalling);
        int[][] wrong = {{0, 1, 10, 0}, {401, 9999, 120, 3}, {1, 0, 10, 0}, {400, 10000, 120, 3}, {1, 1, 9, 0},
            {400, 9999, 121, 3}, {1, 1, 10, -1}, {400, 9999, 120, 4}, {0, 0, 9, -1}, {401, 10000, 121, 4},
            {-50, 10, 10, 1}, {50, -10, 10, 1}, {50, 10, -10, 1}, {50, 10, 0, 1}};
        for (int[] s : wrong) {
            edges.refused("ship(" + s[0] + ", " + s[1] + ", " + s[2] + ", " + s[3] + ")", Due.ARGUMENT,
                    x -> x.ship(s[0], s[1], s[2], s[3]));
        }
    }

    @Says(promise = 4, value = "Throws `IllegalStateException` if there are 12")
    static void p04_throwsIfThereAre12(Due due) {
        new Edges(due, () -> {
            Harbour h = Harbour.deep();
            h.ships(11);
            return h;
        }).accepted("a twelfth", x -> x.ship(50, 10, 10, 0));
        Edges full = new Edges(due, Harbour::crowded);
        full.refused("a thirteenth", Due.STATE, x -> x.ship(50, 10, 10, 0));
        full.refused("the least as a thirteenth", Due.STATE, x -> x.ship(1, 1, 10, 0));
        full.refused("the greatest as a thirteenth", Due.STATE, x -> x.ship(400, 9999, 120, 3));
    }

    @Says(promise = 5, value = "Tells a pilot.")
    static void p05_tellsAPilot(Due due) {
        Harbour h = Harbour.deep();
        h.pilot();
        due.same("rested now", 0, () -> h.x.rested(0));
        for (int what = 0; what <= 3; what++) {
            int asked = what;
            due.same("no move yet, " + what, 0, () -> h.x.ofPilot(0, asked));
        }
        due.thrown("there is but one", Due.INDEX, () -> h.x.rested(1));
    }

    @Says(promise = 5, value = "`licence`: 1 to 9999: tons")
    static void p05_licence1To9999(Due due) {
        new Edges(due, Harbour::oneSet).range("licence", 1, 9999, Due.ARGUMENT, (x, value) -> x.pilot(value, 1));
        Harbour h = Harbour.deep();
        h.x.pilot(1, 1);
        h.x.pilot(9999, 1);
        int[][] rows = {{1, 1, 1}, {2, 0, 1}, {9998, 0, 1}, {9999, 0, 1}};
        for (int[] row : rows) {
            int conference = h.x.call(h.x.ship(50, row[0], 10, 0), 0);
            for (int i = 0; i < 2; i++) {
                int pilot = i;
                String told = row[0] + " tons, pilot " + i;
                if (row[1 + i] == 1) {
                    due.same(told, -1, () -> h.x.join(conference, 2, pilot));
                    h.x.drop(conference, 2);
                } else {
                    due.thrown(told, Due.STATE, () -> h.x.join(conference, 2, pilot));
                }
            }
        }
    }

    @Says(promise = 5, value = "`rate`: 1 to 50: for a minute")
    static void p05_rate1To50(Due due) {
        new Edges(due, Harbour::oneSet).range("rate", 1, 50, Due.ARGUMENT, (x, value) -> x.pilot(10, value));
        for (int rate : new int[] {1, 2, 49, 50}) {
            Harbour h = Harbour.deep();
            h.ship(11, 0);
            h.x.pilot(10, rate);
            h.full(0, 0, 0);
            h.x.pass(11);
            due.same("11 minutes at " + rate, 11 * rate, () -> h.x.bill(0));
            due.same("for that pilot", 11 * rate, () -> h.x.ofPilot(0, 3));
        }
    }

    @Says(promise = 5, value = "Returns the number.")
    static void p05_returnsTheNumber(Due due) {
        Harbour h = Harbour.deep();
        for (int i = 0; i < 8; i++) {
            due.same("the same pilot once more is another one", i, h::pilot);
        }
    }

    @Says(promise = 5, value = "Throws `IllegalArgumentException` if licence or rate is out of range")
    static void p05_throwsIfLicenceOrRateIsOut(Due due) {
        Edges edges = new Edges(due, Harbour::oneCalling);
        int[][] wrong = {{0, 1}, {0, 50}, {10000, 50}, {1, 0}, {9999, 51}, {0, 0}, {10000, 51}, {-10, 5}, {10, -5}};
        for (int[] pair : wrong) {
            edges.refused("pilot(" + pair[0] + ", " + pair[1] + ")", Due.ARGUMENT, x -> x.pilot(pair[0], pair[1]));
        }
    }

    @Says(promise = 5, value = "Throws `IllegalStateException` if there are 8")
    static void p05_throwsIfThereAre8(Due due) {
        new Edges(due, () -> {
            Harbour h = Harbour.deep();
            h.pilots(7);
            return h;
        }).accepted("an eighth", x -> x.pilot(10, 5));
        Edges full = new Edges(due, Harbour::crowded);
        full.refused("a ninth", Due.STATE, x -> x.pilot(10, 5));
        full.refused("the least as a ninth", Due.STATE, x -> x.pilot(1, 1));
        full.refused("the greatest as a ninth", Due.STATE, x -> x.pilot(9999, 50));
    }
}
