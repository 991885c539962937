/** A test for each sentence of the terms about conferences and their slots. */
final class SlotSentences {
    private static final int SHIP = HarbourPilotline.SHIP;
    private static final int TOWER = HarbourPilotline.TOWER;
    private static final int PILOT = HarbourPilotline.PILOT;

    private SlotSentences() {
    }

    @Says(promise = 0, value = "Conferences are numbered from 0, at most 40: for a move of a ship, at a wished minute"
            + " or later.")
    static void p00_atAWishedMinuteOrLater(Due due) {
        Harbour h = Harbour.deep();
        h.ship(10, 0);
        h.pilots(2);
        due.same("at its wish", 50, () -> h.slot(h.full(0, 50, 0)));
        due.same("later", 65, () -> h.slot(h.full(0, 50, 1)));
    }

    @Says(promise = 0, value = "The SHIP, the TOWER and a PILOT join it, in whatever order;")
    static void p00_inWhateverOrder(Due due) {
        int[][] orders = {{0, 1, 2}, {0, 2, 1}, {1, 0, 2}, {1, 2, 0}, {2, 0, 1}, {2, 1, 0}};
        for (int[] order : orders) {
            Harbour h = Harbour.oneCalling();
            String told = "order " + order[0] + order[1] + order[2];
            due.same(told + ", the first", -1, () -> h.x.join(0, order[0], 0));
            due.same(told + ", the second", -1, () -> h.x.join(0, order[1], 0));
            due.same(told + ", the third", 20, () -> h.x.join(0, order[2], 0));
            due.same(told + ", SET", 2, () -> h.state(0));
        }
    }

    @Says(promise = 0, value = "a pilot's licence must do for the ship.")
    static void p00_theLicenceMustDo(Due due) {
        int[][] rows = {{9, 10, 0}, {10, 10, 1}, {11, 10, 1}, {1, 1, 1}, {1, 2, 0}, {9998, 9999, 0}, {9999, 9999, 1}};
        for (int[] row : rows) {
            Harbour h = Harbour.deep();
            h.x.ship(50, row[1], 10, 0);
            h.x.pilot(row[0], 5);
            h.x.call(0, 20);
            String told = "licence " + row[0] + " for " + row[1] + " tons";
            if (row[2] == 1) {
                due.same(told, -1, () -> h.x.join(0, PILOT, 0));
            } else {
                due.thrown(told, Due.STATE, () -> h.x.join(0, PILOT, 0));
            }
            due.same(told + ", it matters for the pilot alone", -1, () -> h.x.join(0, SHIP, 0));
        }
    }

    @Says(promise = 0, value = "It is CALLING, until all three are in it;")
    static void p00_callingUntilAllThreeAreIn(Due due) {
        for (int last = 0; last < 3; last++) {
            Harbour h = Harbour.oneCalling();
            due.same("with nobody", 0, () -> h.state(0));
            for (int who = 0; who < 3; who++) {
                if (who != last) {
                    h.x.join(0, who, 0);
                    due.same("without " + last, 0, () -> h.state(0));
                    due.same("no slot without " + last, -1, () -> h.slot(0));
                }
            }
            h.x.pass(20);
            due.same("its wish has come, still without " + last, 0, () -> h.state(0));
            h.x.join(0, last, 0);
            due.same("all three", 3, () -> h.state(0));
        }
    }

    @Says(promise = 0, value = "then a slot is looked for: the earliest minute for its move to begin, from the wished"
            + " one and from now on,")
    static void p00_fromTheWishedOneAndFromNowOn(Due due) {
        int[][] rows = {
            // wish, now, slot
            {0, 0, 0}, {20, 0, 20}, {20, 19, 20}, {20, 20, 20}, {20, 21, 21}, {0, 100, 100}, {20000, 0, 20000},
            {20000, 20000, 20000}, {0, 20000, 20000}};
        for (int[] row : rows) {
            Harbour h = Harbour.deep();
            h.ship(10, 0);
            h.pilot();
            h.x.call(0, row[0]);
            h.passTo(row[1]);
            due.same("wish " + row[0] + ", now " + row[1], row[2], () -> h.fill(0, 0));
        }
        Harbour before = Harbour.deep();
        before.ship(10, 0);
        before.pilots(2);
        before.full(0, 100, 0);
        due.same("none earlier than its wish, though one would do", 115, () -> before.slot(before.full(0, 90, 1)));
    }

    @Says(promise = 0, value = "but at most 1440 minutes behind the later one of these, so that")
    static void p00_atMost1440BehindItsWish(Due due) {
        // Six moves of 120 minutes and their rests keep the pilot until 1440 minutes behind the first.
        for (int shift = 0; shift < 2; shift++) {
            Harbour h = Harbour.deep();
            h.ship(120, 0);
            h.pilot();
            for (int i = 0; i < 6; i++) {
                h.full(0, 100 + shift, 0);
            }
            int last = h.full(0, 100, 0);
            due.same("the sixth", 1300 + shift, () -> h.slot(5));
            due.same("1440 or 1441 behind its wish", shift == 0 ? 1540 : -1, () -> h.slot(last));
            due.same("SET or JOINED", shift == 0 ? 2 : 1, () -> h.state(last));
        }
    }

    @Says(promise = 0, value = "but at most 1440 minutes behind the later one of these, so that")
    static void p00_atMost1440BehindNow(Due due) {
        for (int shift = 0; shift < 2; shift++) {
            Harbour h = Harbour.deep();
            h.ship(120, 0);
            h.pilot();
            for (int i = 0; i < 6; i++) {
                h.full(0, 100 + shift, 0);
            }
            int last = h.x.call(0, 0);
            h.x.pass(100);
            due.same("1440 or 1441 behind now", shift == 0 ? 1540 : -1, () -> h.fill(last, 0));
        }
    }

    @Says(promise = 0, value = "but at most 1440 minutes behind the later one of these, so that")
    static void p00_atMost1440BehindTheLastMinute(Due due) {
        Harbour h = Harbour.deep();
        h.ship(120, 0);
        h.pilot();
        h.passTo(20000);
        for (int i = 0; i < 6; i++) {
            int slot = 20000 + 240 * i;
            due.same("move " + i, slot, () -> h.slot(h.full(0, 20000, 0)));
        }
        due.same("the latest slot of all", 21440, () -> h.slot(h.full(0, 20000, 0)));
        due.same("none behind it", -1, () -> h.slot(h.full(0, 20000, 0)));
    }

    @Says(promise = 0, value = "the tide does in each minute of the move, its first one and so on;")
    static void p00_theTideDoesInEachMinute(Due due) {
        int[][] rows = {
            // draught, minutes, wish, slot; one foot of tide is there from 9 to 711, 39 feet from 351 to 369
            {90, 10, 0, 0}, {91, 10, 0, 9}, {91, 10, 8, 9}, {91, 10, 9, 9}, {91, 10, 702, 702}, {91, 10, 703, 729},
            {91, 120, 592, 592}, {91, 120, 593, 729}, {129, 19, 0, 351}, {129, 19, 351, 351}, {129, 19, 352, 1071},
            {129, 18, 352, 352}, {129, 20, 0, -1}, {130, 10, 0, -1}};
        for (int[] row : rows) {
            Harbour h = new Harbour();
            h.x.ship(row[0], 10, row[1], 0);
            h.pilot();
            h.full(0, row[2], 0);
            due.same("draught " + row[0] + " for " + row[1] + ", wish " + row[2], row[3], () -> h.slot(0));
        }
    }

    @Says(promise = 0, value = "the pilot does: for each other slot of the same pilot, one of both moves is over, and"
            + " as many minutes went by since as it took, at least 60, before the other one begins;")
    static void p00_thePilotDoes(Due due) {
        int[][] rows = {
            // minutes of the one at 1000, of the other: the last minute ahead and the first behind that do
            {10, 10, 930, 1070}, {59, 59, 881, 1119}, {60, 60, 880, 1120}, {61, 61, 878, 1122}, {62, 10, 930, 1124},
            {10, 62, 876, 1070}, {120, 120, 760, 1240}, {60, 61, 878, 1120}, {61, 60, 880, 1122}};
        for (int[] row : rows) {
            Harbour h = Harbour.deep();
            h.ship(row[0], 0);
            h.ship(row[1], 0);
            h.pilots(2);
            h.full(0, 1000, 0);
            h.x.call(1, 0);
            h.x.join(1, PILOT, 0);
            String told = row[1] + " minutes around " + row[0] + ", at ";
            due.same(told + row[2], 0, () -> h.x.why(1, row[2]));
            due.same(told + (row[2] + 1), 2, () -> h.x.why(1, row[2] + 1));
            due.same(told + "1000", 2, () -> h.x.why(1, 1000));
            due.same(told + (row[3] - 1), 2, () -> h.x.why(1, row[3] - 1));
            due.same(told + row[3], 0, () -> h.x.why(1, row[3]));
            due.same(told + "its slot ahead", row[2], () -> h.slot(h.full(1, row[2], 0)));
            h.x.drop(2, PILOT);
            due.same(told + "its slot behind", row[3], () -> h.slot(h.full(1, row[2] + 1, 0)));
            h.x.drop(3, PILOT);
            due.same(told + "another pilot's", 980, () -> h.slot(h.full(1, 980, 1)));
        }
    }

    @Says(promise = 0, value = "the pilot does: for each other slot of the same pilot, one of both moves is over, and"
            + " as many minutes went by since as it took, at least 60, before the other one begins;")
    static void p00_thePilotDoesBetweenTwo(Due due) {
        // 30 minutes and a rest behind 300 it is 390; 30 minutes and a rest ahead of it there are 90.
        int[][] rows = {{480, 390}, {481, 390}, {479, 569}};
        for (int[] row : rows) {
            Harbour h = Harbour.deep();
            h.ship(30, 0);
            h.pilot();
            h.full(0, 300, 0);
            h.full(0, row[0], 0);
            due.same("between 300 and " + row[0], row[1], () -> h.slot(h.full(0, 300, 0)));
        }
    }

    @Says(promise = 0, value = "tugs do: in each minute of the move all moves that go on then, by their slots, need at"
            + " most as many tugs as there are;")
    static void p00_tugsDo(Due due) {
        int[][] rows = {
            // tugs there are, of the move of 30 minutes at 1000, of the other of 20: last ahead, first behind
            {3, 2, 2, 980, 1030}, {3, 3, 1, 980, 1030}, {6, 3, 3, 985, 1015}, {5, 3, 3, 980, 1030},
            {3, 2, 1, 985, 1015}, {3, 3, 0, 985, 1015}, {2, 3, 0, 980, 1030}, {2, 2, 0, 985, 1015}};
        for (int[] row : rows) {
            Harbour h = Harbour.deep();
            h.ship(30, row[1]);
            h.ship(20, row[2]);
            h.pilots(2);
            h.full(0, 1000, 0);
            h.x.tugs(row[0]);
            h.x.call(1, 0);
            h.x.join(1, PILOT, 1);
            int not = row[3] == 985 ? 4 : 3;
            String told = row[2] + " and " + row[1] + " of " + row[0] + " tugs, at ";
            due.same(told + row[3], 0, () -> h.x.why(1, row[3]));
            due.same(told + (row[3] + 1), not, () -> h.x.why(1, row[3] + 1));
            due.same(told + (row[4] - 1), not, () -> h.x.why(1, row[4] - 1));
            due.same(told + row[4], 0, () -> h.x.why(1, row[4]));
            due.same(told + "its slot", row[4], () -> h.slot(h.full(1, row[3] + 1, 1)));
        }
    }

    @Says(promise = 0, value = "tugs do: in each minute of the move all moves that go on then, by their slots, need at"
            + " most as many tugs as there are;")
    static void p00_tugsDoMinuteByMinute(Due due) {
        for (int shift = 0; shift < 2; shift++) {
            // The second begins as the first is over, or a minute ahead of that: then both go on at 1029.
            Harbour h = Harbour.deep();
            h.ship(30, 1);
            h.ship(60, 1);
            h.pilots(3);
            h.full(0, 1000, 0);
            h.full(0, 1030 - shift, 1);
            h.x.tugs(2);
            due.same("over a change of moves", shift == 0 ? 1015 : 1044, () -> h.slot(h.full(1, 1015, 2)));
            due.same("with a tug more it is the channel", shift == 0 ? 0 : 4, () -> {
                h.x.tugs(3);
                return h.x.why(2, 1015);
            });
        }
        Harbour calling = Harbour.deep();
        calling.ship(30, 3);
        calling.pilots(2);
        calling.x.call(0, 100);
        calling.x.join(0, SHIP, 0);
        calling.x.join(0, PILOT, 0);
        calling.x.tugs(3);
        due.same("who has no slot needs no tug", 100, () -> calling.slot(calling.full(0, 100, 1)));
    }

    @Says(promise = 0, value = "the channel does: each other slot begins at least 15 minutes ahead of it, or behind"
            + " it.")
    static void p00_theChannelDoes(Due due) {
        int[][] rows = {{984, 0}, {985, 0}, {986, 4}, {999, 4}, {1000, 4}, {1001, 4}, {1014, 4}, {1015, 0}, {1016, 0}};
        for (int[] row : rows) {
            Harbour h = Harbour.deep();
            h.ship(10, 0);
            h.pilots(2);
            h.full(0, 1000, 0);
            h.x.call(0, 0);
            h.x.join(1, PILOT, 1);
            due.same("at " + row[0], row[1], () -> h.x.why(1, row[0]));
            due.same("its slot from " + row[0], row[1] == 0 ? row[0] : 1015, () -> h.slot(h.full(0, row[0], 1)));
        }
        int[][] between = {{1030, 1015}, {1029, 1044}};
        for (int[] row : between) {
            Harbour h = Harbour.deep();
            h.ship(10, 0);
            h.pilots(3);
            h.full(0, 1000, 0);
            h.full(0, row[0], 1);
            due.same("between 1000 and " + row[0], row[1], () -> h.slot(h.full(0, 1000, 2)));
        }
    }

    @Says(promise = 0, value = "With a slot it is SET; without one it is JOINED.")
    static void p00_setOrJoined(Due due) {
        Harbour set = Harbour.oneSet();
        due.same("with a slot", 2, () -> set.state(0));
        due.same("its slot", 20, () -> set.slot(0));
        Harbour joined = Harbour.oneJoined();
        due.same("without one", 1, () -> joined.state(0));
        due.same("no slot", -1, () -> joined.slot(0));
        joined.x.pass(20);
        due.same("as its wish comes, it stays JOINED", 1, () -> joined.state(0));
        Harbour one = Harbour.deep();
        one.ship(10, 0);
        one.pilot();
        one.full(0, 1, 0);
        due.same("a slot at the next minute", 2, () -> one.state(0));
    }

    @Says(promise = 0, value = "When its minute comes, at once if that is now, it is ABOARD,")
    static void p00_aboardWhenItsMinuteComes(Due due) {
        Harbour h = Harbour.oneSet();
        h.x.pass(19);
        due.same("a minute ahead", 2, () -> h.state(0));
        h.x.pass(1);
        due.same("its minute", 3, () -> h.state(0));
        h.x.pass(9);
        due.same("its last minute", 3, () -> h.state(0));
    }

    @Says(promise = 0, value = "When its minute comes, at once if that is now, it is ABOARD,")
    static void p00_aboardAtOnce(Due due) {
        Harbour byJoin = Harbour.oneCalling();
        byJoin.x.pass(20);
        due.same("a slot now, by join", 20, () -> byJoin.fill(0, 0));
        due.same("at once, by join", 3, () -> byJoin.state(0));
        Harbour byAgain = Harbour.oneJoined();
        byAgain.x.pass(20);
        due.same("a slot now, by again", 20, () -> byAgain.x.again(0));
        due.same("at once, by again", 3, () -> byAgain.state(0));
        Harbour byDrop = Harbour.deep();
        byDrop.ship(10, 0);
        byDrop.pilots(2);
        byDrop.full(0, 14, 0);
        byDrop.full(0, 5, 1);
        due.same("behind the first", 29, () -> byDrop.slot(1));
        byDrop.x.pass(6);
        due.same("a slot now, by the other's drop", 1, () -> byDrop.x.drop(0, TOWER));
        due.same("now", 6, () -> byDrop.slot(1));
        due.same("at once, by the other's drop", 3, () -> byDrop.state(1));
    }

    @Says(promise = 0, value = "and DONE as its move is over: then the ship owes the minutes of its move times the"
            + " rate of the pilot, and 100 for each tug.")
    static void p00_doneAsItsMoveIsOver(Due due) {
        int[][] rows = {
            // minutes, tugs, rate, what is owed
            {10, 0, 1, 10}, {10, 1, 1, 110}, {120, 3, 50, 6300}, {120, 0, 50, 6000}, {37, 2, 13, 681}};
        for (int[] row : rows) {
            Harbour h = Harbour.deep();
            h.ship(row[0], row[1]);
            h.x.pilot(10, row[2]);
            h.full(0, 7, 0);
            String told = row[0] + " minutes, " + row[1] + " tugs, rate " + row[2] + ": ";
            due.same(told + "a minute is left", 0, () -> h.x.pass(7 + row[0] - 1));
            due.same(told + "ABOARD", 3, () -> h.state(0));
            due.same(told + "nothing owed yet", 0, () -> h.x.bill(0));
            due.same(told + "over", 1, () -> h.x.pass(1));
            due.same(told + "DONE", 4, () -> h.state(0));
            due.same(told + "owed", row[3], () -> h.x.bill(0));
            due.same(told + "but once", 0, () -> h.x.pass(2000));
            due.same(told + "owed later", row[3], () -> h.x.bill(0));
        }
    }

    @Says(promise = 0, value = "Slots of SET, ABOARD and DONE moves count.")
    static void p00_slotsOfSetAboardAndDoneCount(Due due) {
        // A move of 10 minutes at 20: the channel is closed to minute 34, the pilot rests to minute 89.
        Edges.Made[] all = {Harbour::oneSet, Harbour::oneAboard, Harbour::oneDone};
        for (int state = 2; state <= 4; state++) {
            Harbour h = all[state - 2].harbour();
            h.pilot();
            h.calls(2);
            h.x.join(1, PILOT, 0);
            h.x.join(2, PILOT, 1);
            String told = "state " + state + ": ";
            due.same(told + "it is that", state, () -> h.state(0));
            due.same(told + "the channel at 34", 4, () -> h.x.why(2, 34));
            due.same(told + "the channel at 35", 0, () -> h.x.why(2, 35));
            due.same(told + "the same pilot at 89", 2, () -> h.x.why(1, 89));
            due.same(told + "the same pilot at 90", 0, () -> h.x.why(1, 90));
            h.x.join(1, SHIP, 0);
            due.same(told + "the same pilot's slot", 90, () -> h.x.join(1, TOWER, 0));
        }
        Edges.Made[] none = {Harbour::oneCalling, Harbour::oneJoined};
        for (Edges.Made made : none) {
            Harbour h = made.harbour();
            h.x.call(0, 20);
            due.same("who has no slot is in nobody's way", 20, () -> h.fill(1, 0));
        }
    }

    @Says(promise = 0, value = "Slots of SET, ABOARD and DONE moves count.")
    static void p00_tugsOfSetAndAboardMovesCount(Due due) {
        Harbour h = Harbour.deep();
        h.ship(60, 3);
        h.pilots(2);
        h.full(0, 20, 0);
        h.calls(1);
        h.x.join(1, PILOT, 1);
        h.x.tugs(5);
        int[][] rows = {
            // now, the minute that is asked for, why not
            {0, 0, 3}, {0, 20, 3}, {0, 79, 3}, {0, 80, 0}, {20, 20, 3}, {20, 79, 3}, {20, 80, 0}, {79, 79, 3},
            {79, 80, 0}, {80, 80, 0}};
        for (int[] row : rows) {
            h.passTo(row[0]);
            due.same("now " + row[0] + ", at " + row[1], row[2], () -> h.x.why(1, row[1]));
        }
    }

    @Says(promise = 0, value = "One in a conference that is not ABOARD or DONE can drop: a slot of it is gone, and it"
            + " is CALLING.")
    static void p00_whoCanDrop(Due due) {
        Edges.Made[] all = {Harbour::oneJoined, Harbour::oneSet, Harbour::oneAboard, Harbour::oneDone};
        for (int state = 1; state <= 4; state++) {
            for (int i = 0; i < 3; i++) {
                int who = i;
                Harbour h = all[state - 1].harbour();
                String told = "state " + state + ", " + who + " drops: ";
                if (state <= 2) {
                    due.same(told + "nobody else is there", 0, () -> h.x.drop(0, who));
                    due.same(told + "CALLING", 0, () -> h.state(0));
                    due.same(told + "no slot", -1, () -> h.slot(0));
                    due.same(told + "two are left", 2, () -> h.x.ofConference(0, 3));
                    due.same(told + "the pilot", who == 2 ? -1 : 0, () -> h.x.ofConference(0, 2));
                    due.same(told + "back again", 20, () -> h.x.join(0, who, 0));
                } else {
                    due.thrown(told, Due.STATE, () -> h.x.drop(0, who));
                    due.same(told + "it stays", state, () -> h.state(0));
                }
            }
        }
        Harbour calling = Harbour.oneCalling();
        calling.x.join(0, TOWER, 0);
        due.same("out of a CALLING one", 0, () -> calling.x.drop(0, TOWER));
        due.same("nobody is left", 0, () -> calling.x.ofConference(0, 3));
    }

    @Says(promise = 0, value = "If a slot was, then each other conference that is SET or JOINED, by numbers, looks for"
            + " a slot anew, its own one being let go first.")
    static void p00_othersLookAnewByNumbers(Due due) {
        Harbour h = Harbour.deep();
        h.ship(10, 0);
        h.pilot();
        h.full(0, 10, 0);
        h.x.call(0, 40);
        h.x.call(0, 30);
        due.same("the third first", 80, () -> h.fill(2, 0));
        due.same("then the second", 150, () -> h.fill(1, 0));
        due.same("the second looks while the third has its slot", 1, () -> h.x.drop(0, TOWER));
        due.same("the second", 150, () -> h.slot(1));
        due.same("the third", 30, () -> h.slot(2));
        due.same("the first comes back behind both", 220, () -> h.x.join(0, TOWER, 0));
    }

    @Says(promise = 0, value = "If a slot was, then each other conference that is SET or JOINED, by numbers, looks for"
            + " a slot anew, its own one being let go first.")
    static void p00_itsOwnSlotIsLetGoFirst(Due due) {
        Harbour h = Harbour.deep();
        h.ship(30, 3);
        h.pilots(3);
        h.full(0, 20, 0);
        h.full(0, 25, 1);
        h.full(0, 200, 2);
        h.x.tugs(3);
        due.same("near the first", 35, () -> h.slot(1));
        due.same("far from it", 200, () -> h.slot(2));
        due.same("one moves", 1, () -> h.x.drop(0, TOWER));
        due.same("to where its own slot was in the way", 25, () -> h.slot(1));
        due.same("the other is back at its own", 200, () -> h.slot(2));
    }

    @Says(promise = 0, value = "If a slot was, then each other conference that is SET or JOINED, by numbers, looks for"
            + " a slot anew, its own one being let go first.")
    static void p00_withoutASlotNobodyLooks(Due due) {
        Harbour h = Harbour.deep();
        h.x.tugs(0);
        h.ship(10, 1);
        h.ship(10, 0);
        h.pilots(4);
        h.full(0, 20, 0);
        h.full(0, 20, 1);
        h.x.call(1, 20);
        h.x.join(2, SHIP, 0);
        h.x.tugs(1);
        due.same("out of a JOINED one", 0, () -> h.x.drop(0, SHIP));
        due.same("out of a CALLING one", 0, () -> h.x.drop(2, SHIP));
        due.same("the JOINED one did not look", 1, () -> h.state(1));
        due.same("out of a SET one", 1, () -> {
            h.full(1, 500, 2);
            return h.x.drop(3, SHIP);
        });
        due.same("now it looked", 20, () -> h.slot(1));
    }
}
