/** A test for each sentence of the promises 6 to 10: calls. */
final class CallSentences {
    private static final int SHIP = HarbourPilotline.SHIP;
    private static final int TOWER = HarbourPilotline.TOWER;
    private static final int PILOT = HarbourPilotline.PILOT;

    private CallSentences() {
    }

    @Says(promise = 6, value = "Begins a conference.")
    static void p06_beginsAConference(Due due) {
        Harbour h = Harbour.deep();
        h.ships(2);
        h.pilot();
        h.x.call(1, 20);
        int[] fresh = {0, -1, -1, 0, 1};
        for (int what = 0; what < 5; what++) {
            int asked = what;
            due.same("ofConference(0, " + what + ")", fresh[what], () -> h.x.ofConference(0, asked));
        }
        due.same("one is CALLING", 1, () -> h.x.count(0));
        due.same("the pilot is rested as before", 0, () -> h.x.rested(0));
    }

    @Says(promise = 6, value = "`ship`: the ship")
    static void p06_theShip(Due due) {
        Harbour h = Harbour.deep();
        h.ships(12);
        for (int i : new int[] {0, 11, 5, 11, 0}) {
            int conference = h.x.call(i, 0);
            due.same("the ship of conference " + conference, i, () -> h.x.ofConference(conference, 4));
        }
        due.same("a ship may be called for while it moves", 0, () -> {
            h.pilots(2);
            h.fill(0, 0);
            return h.x.ofConference(h.x.call(0, 0), 0);
        });
    }

    @Says(promise = 6, value = "`wish`: now to 20000: the wished minute")
    static void p06_wishNowTo20000(Due due) {
        for (int now : new int[] {0, 1, 7, 2000, 19999, 20000}) {
            Edges edges = new Edges(due, () -> {
                Harbour h = Harbour.deep();
                h.ship(10, 0);
                h.pilot();
                h.passTo(now);
                return h;
            });
            edges.range("now " + now + ", wish", now, 20000, Due.ARGUMENT, (x, wish) -> x.call(0, wish));
        }
        for (int wish : new int[] {7, 8, 20000}) {
            Harbour h = Harbour.deep();
            h.ship(10, 0);
            h.pilot();
            h.x.pass(7);
            due.same("the slot of a wish of " + wish, wish, () -> h.slot(h.full(0, wish, 0)));
        }
    }

    @Says(promise = 6, value = "Returns its number.")
    static void p06_returnsItsNumber(Due due) {
        Harbour h = Harbour.deep();
        h.ships(12);
        for (int i = 0; i < 40; i++) {
            int ship = i % 12;
            due.same("call " + i, i, () -> h.x.call(ship, 0));
        }
    }

    @Says(promise = 6, value = "Throws `IndexOutOfBoundsException` if there is no such ship")
    static void p06_throwsIfThereIsNoSuchShip(Due due) {
        new Edges(due, Harbour::new).refused("none at all", Due.INDEX, x -> x.call(0, 0));
        for (Edges.Made made : Harbour.states()) {
            Edges edges = new Edges(due, made);
            for (int wrong : new int[] {-1, 1, 12, Integer.MIN_VALUE, Integer.MAX_VALUE}) {
                edges.refused("ship " + wrong, Due.INDEX, x -> x.call(wrong, 20000));
            }
        }
        new Edges(due, Harbour::crowded).refused("a thirteenth", Due.INDEX, x -> x.call(12, 0));
    }

    @Says(promise = 6, value = "Throws `IllegalArgumentException` if wish is out of range")
    static void p06_throwsIfWishIsOut(Due due) {
        Edges edges = new Edges(due, Harbour::oneAboard);
        edges.accepted("wish 20, which is now", x -> x.call(0, 20));
        for (int wrong : new int[] {19, 0, -1, -20, 20001, 21440, Integer.MIN_VALUE, Integer.MAX_VALUE}) {
            edges.refused("wish " + wrong, Due.ARGUMENT, x -> x.call(0, wrong));
        }
    }

    @Says(promise = 6, value = "Throws `IllegalStateException` if there are 40")
    static void p06_throwsIfThereAre40(Due due) {
        new Edges(due, () -> {
            Harbour h = Harbour.deep();
            h.ship(10, 0);
            h.calls(39);
            return h;
        }).accepted("a fortieth", x -> x.call(0, 0));
        Edges full = new Edges(due, Harbour::crowded);
        full.refused("a forty-first", Due.STATE, x -> x.call(0, 0));
        full.refused("a forty-first, of another ship", Due.STATE, x -> x.call(11, 20000));
        Edges done = new Edges(due, () -> {
            Harbour h = Harbour.deep();
            h.ship(10, 0);
            h.pilot();
            h.calls(40);
            h.fill(0, 0);
            h.x.pass(10);
            return h;
        });
        done.refused("a DONE one is a conference still", Due.STATE, x -> x.call(0, 10));
    }

    @Says(promise = 7, value = "Somebody joins a conference.")
    static void p07_somebodyJoins(Due due) {
        Harbour h = Harbour.oneCalling();
        h.pilot();
        h.x.call(0, 20);
        h.x.join(0, PILOT, 1);
        due.same("one is in it", 1, () -> h.x.ofConference(0, 3));
        due.same("its pilot", 1, () -> h.x.ofConference(0, 2));
        h.x.join(0, TOWER, 0);
        due.same("two are in it", 2, () -> h.x.ofConference(0, 3));
        h.x.join(0, SHIP, 0);
        due.same("three are in it", 3, () -> h.x.ofConference(0, 3));
        due.same("its pilot still", 1, () -> h.x.ofConference(0, 2));
        due.same("nobody is in another", 0, () -> h.x.ofConference(1, 3));
        due.same("the same pilot may be in another too", -1, () -> h.x.join(1, PILOT, 1));
    }

    @Says(promise = 7, value = "`conference`: its number")
    static void p07_itsNumber(Due due) {
        new Edges(due, Harbour::oneCalling).range("conference", 0, 0, Due.INDEX, (x, i) -> x.join(i, TOWER, 0));
        new Edges(due, Harbour::crowded).range("conference", 0, 39, Due.INDEX, (x, i) -> x.join(i, TOWER, 0));
    }

    @Says(promise = 7, value = "`who`: SHIP to PILOT")
    static void p07_shipToPilot(Due due) {
        new Edges(due, Harbour::oneCalling).range("who", SHIP, PILOT, Due.INDEX, (x, who) -> x.join(0, who, 0));
        new Edges(due, Harbour::oneCalling).accepted("TOWER", x -> x.join(0, TOWER, 0));
    }

    @Says(promise = 7, value = "`pilot`: the pilot; it does not matter for others")
    static void p07_thePilot(Due due) {
        new Edges(due, Harbour::oneCalling).range("pilot", 0, 0, Due.INDEX, (x, i) -> x.join(0, PILOT, i));
        new Edges(due, Harbour::crowded).range("pilot", 0, 7, Due.INDEX, (x, i) -> x.join(0, PILOT, i));
        Edges nobody = new Edges(due, () -> {
            Harbour h = Harbour.deep();
            h.ship(10, 0);
            h.calls(1);
            return h;
        });
        for (int any : new int[] {-1, 0, 8, Integer.MIN_VALUE, Integer.MAX_VALUE}) {
            nobody.accepted("SHIP with " + any, x -> x.join(0, SHIP, any));
            nobody.accepted("TOWER with " + any, x -> x.join(0, TOWER, any));
            nobody.refused("PILOT with " + any, Due.INDEX, x -> x.join(0, PILOT, any));
        }
        Harbour h = Harbour.oneCalling();
        h.x.pilot(9, 1);
        due.same("nor does another's licence", -1, () -> h.x.join(0, SHIP, 1));
        due.same("no pilot is in it by that", -1, () -> h.x.ofConference(0, 2));
    }

    @Says(promise = 7, value = "Returns its slot; NONE without one.")
    static void p07_returnsItsSlot(Due due) {
        Harbour h = Harbour.deep();
        h.ship(10, 0);
        h.ship(10, 3);
        h.pilots(2);
        h.x.call(0, 0);
        due.same("the first of three", -1, () -> h.x.join(0, SHIP, 0));
        due.same("the second of three", -1, () -> h.x.join(0, PILOT, 0));
        due.same("the slot 0 is one", 0, () -> h.x.join(0, TOWER, 0));
        h.x.tugs(2);
        h.x.call(1, 0);
        h.x.join(1, SHIP, 0);
        h.x.join(1, PILOT, 1);
        due.same("the third of three, but there is none", -1, () -> h.x.join(1, TOWER, 0));
        due.same("it is JOINED", 1, () -> h.state(1));
    }

    @Says(promise = 7, value = "Throws `IndexOutOfBoundsException` if there is no such conference, or who is out of"
            + " range, or there is no such pilot, if it is one")
    static void p07_throwsIfThereIsNoSuchOne(Due due) {
        for (Edges.Made made : Harbour.states()) {
            Edges edges = new Edges(due, made);
            for (int wrong : new int[] {-1, 1, 40, Integer.MIN_VALUE, Integer.MAX_VALUE}) {
                edges.refused("conference " + wrong, Due.INDEX, x -> x.join(wrong, SHIP, 0));
                edges.refused("pilot " + wrong, Due.INDEX, x -> x.join(0, PILOT, wrong));
            }
            for (int wrong : new int[] {-1, 3, 4, Integer.MIN_VALUE, Integer.MAX_VALUE}) {
                edges.refused("who " + wrong, Due.INDEX, x -> x.join(0, wrong, 0));
            }
        }
    }

    @Says(promise = 7, value = "Throws `IllegalStateException` if that one is in it already, or the licence does not"
            + " do")
    static void p07_throwsIfThatOneIsInItAlready(Due due) {
        for (Edges.Made made : Harbour.states()) {
            Edges edges = new Edges(due, () -> {
                Harbour h = made.harbour();
                h.pilot();
                if (h.state(0) == HarbourPilotline.CALLING) {
                    h.x.join(0, TOWER, 0);
                    h.x.join(0, PILOT, 0);
                }
                return h;
            });
            edges.refused("the tower", Due.STATE, x -> x.join(0, TOWER, 0));
            edges.refused("the same pilot", Due.STATE, x -> x.join(0, PILOT, 0));
            edges.refused("another pilot", Due.STATE, x -> x.join(0, PILOT, 1));
        }
        for (int state = 1; state < 5; state++) {
            new Edges(due, Harbour.states()[state]).refused("the ship", Due.STATE, x -> x.join(0, SHIP, 0));
        }
    }

    @Says(promise = 7, value = "Throws `IllegalStateException` if that one is in it already, or the licence does not"
            + " do")
    static void p07_throwsIfTheLicenceDoesNotDo(Due due) {
        Edges edges = new Edges(due, () -> {
            Harbour h = Harbour.oneCalling();
            h.x.pilot(9, 1);
            h.x.pilot(1, 1);
            h.x.pilot(10, 1);
            h.x.join(0, SHIP, 0);
            h.x.join(0, TOWER, 0);
            return h;
        });
        edges.refused("a ton too little", Due.STATE, x -> x.join(0, PILOT, 1));
        edges.refused("the least licence", Due.STATE, x -> x.join(0, PILOT, 2));
        edges.accepted("just enough", x -> x.join(0, PILOT, 3));
    }

    @Says(promise = 8, value = "Lets a conference look for a slot again.")
    static void p08_looksAgain(Due due) {
        Harbour h = Harbour.oneJoined();
        h.full(0, 20, 0);
        due.same("the other has it", 20, () -> h.slot(1));
        due.same("behind the other", 90, () -> h.x.again(0));
        due.same("SET", 2, () -> h.state(0));
        due.same("the other stays", 20, () -> h.slot(1));
        int[][] rows = {{19, 20, 2}, {20, 20, 3}, {21, 21, 3}};
        for (int[] row : rows) {
            Harbour late = Harbour.oneJoined();
            late.x.pass(row[0]);
            due.same("from its wish and from now on, " + row[0], row[1], () -> late.x.again(0));
            due.same("its state, " + row[0], row[2], () -> late.state(0));
        }
    }

    @Says(promise = 8, value = "Lets a conference look for a slot again.")
    static void p08_noOtherLooks(Due due) {
        Harbour h = Harbour.deep();
        h.x.tugs(0);
        h.ship(10, 1);
        h.pilots(2);
        h.full(0, 20, 0);
        h.full(0, 20, 1);
        h.x.tugs(1);
        due.same("the second", 20, () -> h.x.again(1));
        due.same("the first did not look", 1, () -> h.state(0));
        due.same("drops tell nothing of that", 0, () -> h.x.count(7));
    }

    @Says(promise = 8, value = "`conference`: its number")
    static void p08_itsNumber(Due due) {
        new Edges(due, Harbour::oneJoined).range("conference", 0, 0, Due.INDEX, HarbourPilotline::again);
    }

    @Says(promise = 8, value = "Returns its slot; NONE without one.")
    static void p08_returnsItsSlot(Due due) {
        Harbour h = Harbour.oneJoined();
        h.x.tugs(0);
        due.same("in vain", -1, () -> h.x.again(0));
        due.same("still JOINED", 1, () -> h.state(0));
        due.same("in vain once more", -1, () -> h.x.again(0));
        h.x.tugs(1);
        due.same("a slot", 20, () -> h.x.again(0));
        Harbour first = Harbour.deep();
        first.x.tugs(0);
        first.ship(10, 1);
        first.pilot();
        first.full(0, 0, 0);
        first.x.tugs(1);
        due.same("the slot 0 is one", 0, () -> first.x.again(0));
    }

    @Says(promise = 8, value = "Throws `IndexOutOfBoundsException` if there is no such conference")
    static void p08_throwsIfThereIsNoSuchConference(Due due) {
        new Edges(due, Harbour::new).refused("none at all", Due.INDEX, x -> x.again(0));
        for (Edges.Made made : Harbour.states()) {
            Edges edges = new Edges(due, made);
            for (int wrong : new int[] {-1, 1, 40, Integer.MIN_VALUE, Integer.MAX_VALUE}) {
                edges.refused("conference " + wrong, Due.INDEX, x -> x.again(wrong));
            }
        }
        new Edges(due, Harbour::crowded).refused("a forty-first", Due.INDEX, x -> x.again(40));
    }

    @Says(promise = 8, value = "Throws `IllegalStateException` if it is not JOINED")
    static void p08_throwsIfItIsNotJoined(Due due) {
        for (int state = 0; state < 5; state++) {
            Edges edges = new Edges(due, Harbour.states()[state]);
            if (state == HarbourPilotline.JOINED) {
                edges.accepted("JOINED", x -> x.again(0));
            } else {
                edges.refused("state " + state, Due.STATE, x -> x.again(0));
            }
        }
        Edges two = new Edges(due, () -> {
            Harbour h = Harbour.oneJoined();
            h.x.drop(0, TOWER);
            return h;
        });
        two.refused("CALLING again, with two in it", Due.STATE, x -> x.again(0));
    }

    @Says(promise = 9, value = "Somebody drops out of a conference.")
    static void p09_somebodyDropsOut(Due due) {
        Harbour h = Harbour.oneSet();
        h.pilot();
        h.x.drop(0, PILOT);
        due.same("two are in it", 2, () -> h.x.ofConference(0, 3));
        due.same("no pilot", -1, () -> h.x.ofConference(0, 2));
        due.same("the pilot is rested as before", 0, () -> h.x.rested(0));
        h.x.drop(0, SHIP);
        h.x.drop(0, TOWER);
        due.same("nobody is in it", 0, () -> h.x.ofConference(0, 3));
        due.same("its ship is what it was", 0, () -> h.x.ofConference(0, 4));
        due.same("another pilot joins", 20, () -> h.fill(0, 1));
        due.same("that pilot", 1, () -> h.x.ofConference(0, 2));
        due.same("that one rests", 90, () -> h.x.rested(1));
    }

    @Says(promise = 9, value = "`conference`: its number")
    static void p09_itsNumber(Due due) {
        new Edges(due, Harbour::oneSet).range("conference", 0, 0, Due.INDEX, (x, i) -> x.drop(i, TOWER));
    }

    @Says(promise = 9, value = "`who`: SHIP to PILOT")
    static void p09_shipToPilot(Due due) {
        new Edges(due, Harbour::oneSet).range("who", SHIP, PILOT, Due.INDEX, (x, who) -> x.drop(0, who));
        new Edges(due, Harbour::oneSet).accepted("TOWER", x -> x.drop(0, TOWER));
    }

    @Says(promise = 9, value = "Returns how many other conferences have another slot by that than before,")
    static void p09_returnsHowManyHaveAnotherSlot(Due due) {
        Harbour alone = Harbour.oneSet();
        due.same("its own does not count", 0, () -> alone.x.drop(0, SHIP));
        for (int others : new int[] {0, 1, 2, 39}) {
            Harbour h = Harbour.deep();
            h.ship(10, 0);
            h.pilots(8);
            for (int i = 0; i <= others; i++) {
                int pilot = i % 8;
                int slot = 20 + 15 * i;
                due.same("slot " + i, slot, () -> h.slot(h.full(0, 20, pilot)));
            }
            due.same("all " + others + " others", others, () -> h.x.drop(0, TOWER));
            due.same("told by drops", others, () -> h.x.count(7));
            for (int i = 1; i <= others; i++) {
                int moved = i;
                due.same("slot " + i + " behind that", 5 + 15 * i, () -> h.slot(moved));
            }
        }
        Harbour far = Harbour.oneSet();
        far.full(0, 500, 0);
        due.same("who has the same one as before does not count", 0, () -> far.x.drop(0, TOWER));
        due.same("the same one", 500, () -> far.slot(1));
    }

    @Says(promise = 9, value = "Returns how many other conferences have another slot by that than before,")
    static void p09_othersAreThoseAheadOfItAndBehindIt(Due due) {
        for (int left = 0; left < 3; left++) {
            int dropped = left;
            // The one that is left has the first slot, and the two others have the next ones, by numbers.
            Harbour h = Harbour.deep();
            h.ship(10, 0);
            h.pilots(3);
            for (int i = 0; i < 3; i++) {
                h.x.call(0, 20);
            }
            h.fill(dropped, dropped);
            for (int i = 0; i < 3; i++) {
                if (i != dropped) {
                    h.fill(i, i);
                }
            }
            due.same("the one that is left, " + left, 20, () -> h.slot(dropped));
            due.same("both others of " + left, 2, () -> h.x.drop(dropped, SHIP));
            int slot = 20;
            for (int i = 0; i < 3; i++) {
                int other = i;
                int want = i == dropped ? -1 : slot;
                slot += i == dropped ? 0 : 15;
                due.same("left is " + left + ", slot " + i, want, () -> h.slot(other));
            }
        }
    }

    @Says(promise = 9, value = "or one, having had none,")
    static void p09_orOneHavingHadNone(Due due) {
        Harbour h = Harbour.oneSet();
        h.x.tugs(0);
        h.full(0, 300, 0);
        h.full(0, 500, 0);
        due.same("both had none", 2, () -> h.x.count(1));
        h.x.tugs(1);
        due.same("both have one", 2, () -> h.x.drop(0, TOWER));
        due.same("the first", 300, () -> h.slot(1));
        due.same("the second", 500, () -> h.slot(2));
        Harbour none = Harbour.oneSet();
        none.x.tugs(0);
        none.full(0, 300, 0);
        due.same("who had none and has none does not count", 0, () -> none.x.drop(0, TOWER));
    }

    @Says(promise = 9, value = "or none, having had one.")
    static void p09_orNoneHavingHadOne(Due due) {
        Harbour h = Harbour.oneSet();
        h.full(0, 300, 0);
        h.full(0, 500, 0);
        h.x.tugs(0);
        due.same("both had one", 3, () -> h.x.count(2));
        due.same("both have none", 2, () -> h.x.drop(0, TOWER));
        due.same("both are JOINED", 2, () -> h.x.count(1));
        due.same("the first", -1, () -> h.slot(1));
        due.same("the second", -1, () -> h.slot(2));
    }

    @Says(promise = 9, value = "Throws `IndexOutOfBoundsException` if there is no such conference, or who is out of"
            + " range")
    static void p09_throwsIfThereIsNoSuchOne(Due due) {
        new Edges(due, Harbour::new).refused("none at all", Due.INDEX, x -> x.drop(0, 0));
        for (Edges.Made made : Harbour.states()) {
            Edges edges = new Edges(due, made);
            for (int wrong : new int[] {-1, 1, 40, Integer.MIN_VALUE, Integer.MAX_VALUE}) {
                edges.refused("conference " + wrong, Due.INDEX, x -> x.drop(wrong, SHIP));
            }
            for (int wrong : new int[] {-1, 3, 4, Integer.MIN_VALUE, Integer.MAX_VALUE}) {
                edges.refused("who " + wrong, Due.INDEX, x -> x.drop(0, wrong));
            }
        }
    }

    @Says(promise = 9, value = "Throws `IllegalStateException` if that one is not in it, or it is ABOARD or DONE")
    static void p09_throwsIfThatOneIsNotInIt(Due due) {
        for (int i = 0; i < 3; i++) {
            int out = i;
            new Edges(due, Harbour::oneCalling).refused("nobody is, " + out, Due.STATE, x -> x.drop(0, out));
            Edges two = new Edges(due, () -> {
                Harbour h = Harbour.oneSet();
                h.full(0, 20, 0);
                h.x.drop(0, out);
                return h;
            });
            two.refused("out already, " + out, Due.STATE, x -> x.drop(0, out));
            two.accepted("another is in", x -> x.drop(0, (out + 1) % 3));
        }
    }

    @Says(promise = 9, value = "Throws `IllegalStateException` if that one is not in it, or it is ABOARD or DONE")
    static void p09_throwsIfItIsAboardOrDone(Due due) {
        for (int state = 1; state < 5; state++) {
            Edges edges = new Edges(due, Harbour.states()[state]);
            for (int i = 0; i < 3; i++) {
                int who = i;
                if (state >= HarbourPilotline.ABOARD) {
                    edges.refused("state " + state + ", " + who, Due.STATE, x -> x.drop(0, who));
                } else {
                    edges.accepted("state " + state + ", " + who, x -> x.drop(0, who));
                }
            }
        }
        Harbour h = Harbour.oneSet();
        h.x.pass(19);
        due.same("a minute ahead of its slot", 0, () -> h.x.drop(0, SHIP));
    }

    @Says(promise = 10, value = "Lets minutes go by.")
    static void p10_letsMinutesGoBy(Due due) {
        Harbour h = Harbour.oneSet();
        int[][] rows = {
            // minutes, the minute behind that, the state of the conference
            {1, 1, 2}, {18, 19, 2}, {1, 20, 3}, {9, 29, 3}, {1, 30, 4}, {1970, 2000, 4}};
        for (int[] row : rows) {
            h.x.pass(row[0]);
            due.same("minute()", row[1], h.x::minute);
            due.same("its state at " + row[1], row[2], () -> h.state(0));
        }
    }

    @Says(promise = 10, value = "`minutes`: 1 to 2000")
    static void p10_minutes1To2000(Due due) {
        for (Edges.Made made : Harbour.states()) {
            new Edges(due, made).range("minutes", 1, 2000, Due.ARGUMENT, HarbourPilotline::pass);
        }
        HarbourPilotline x = new HarbourPilotline();
        x.pass(1);
        due.same("the least", 1, x::minute);
        x.pass(2000);
        due.same("the most", 2001, x::minute);
    }

    @Says(promise = 10, value = "Returns how many moves are DONE by that.")
    static void p10_returnsHowManyAreDone(Due due) {
        int[][] rows = {{29, 0}, {30, 1}, {44, 1}, {45, 2}, {59, 2}, {60, 3}, {2000, 3}};
        for (int[] row : rows) {
            Harbour h = Harbour.deep();
            h.ship(10, 0);
            h.pilots(4);
            h.full(0, 20, 0);
            h.full(0, 20, 1);
            h.full(0, 20, 2);
            h.x.call(0, 20);
            due.same("at once, to minute " + row[0], row[1], () -> h.x.pass(row[0]));
            due.same("all that are DONE at " + row[0], row[1], () -> h.x.count(4));
            h.passTo(1999);
            due.same("those that were DONE do not count again", 0, () -> h.x.pass(1));
        }
        Harbour none = Harbour.oneJoined();
        due.same("who has no slot is never DONE", 0, () -> none.x.pass(2000));
        Harbour all = Harbour.deep();
        all.ship(10, 0);
        all.pilots(8);
        for (int i = 0; i < 40; i++) {
            all.full(0, 0, i % 8);
        }
        due.same("all forty at once", 40, () -> all.x.pass(2000));
    }

    @Says(promise = 10, value = "Throws `IllegalArgumentException` if minutes is out of range")
    static void p10_throwsIfMinutesIsOut(Due due) {
        Edges edges = new Edges(due, Harbour::oneSet);
        for (int wrong : new int[] {0, -1, -20, 2001, 20000, 20001, Integer.MIN_VALUE, Integer.MAX_VALUE}) {
            edges.refused("minutes " + wrong, Due.ARGUMENT, x -> x.pass(wrong));
        }
    }

    @Says(promise = 10, value = "Throws `IllegalStateException` if it would be above 20000")
    static void p10_throwsIfItWouldBeAbove20000(Due due) {
        int[][] rows = {
            // now, the most minutes that can go by
            {18000, 2000}, {18001, 1999}, {19000, 1000}, {19999, 1}};
        for (int[] row : rows) {
            Edges edges = new Edges(due, () -> {
                Harbour h = Harbour.deep();
                h.ship(10, 0);
                h.pilot();
                h.passTo(row[0]);
                h.full(0, row[0], 0);
                return h;
            });
            edges.accepted(row[1] + " from " + row[0], x -> x.pass(row[1]));
            if (row[1] < 2000) {
                edges.refused(row[1] + 1 + " from " + row[0], Due.STATE, x -> x.pass(row[1] + 1));
                edges.refused("2000 from " + row[0], Due.STATE, x -> x.pass(2000));
            }
        }
        Harbour last = Harbour.deep();
        last.passTo(20000);
        due.thrown("the least at the last minute", Due.STATE, () -> last.x.pass(1));
        due.thrown("the most at the last minute", Due.STATE, () -> last.x.pass(2000));
        due.same("the last minute", 20000, last.x::minute);
    }
}
