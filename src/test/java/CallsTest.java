/** Promises 6 to 10: calls, and how a slot is looked for by them. */
public final class CallsTest {
    private static final Due due = new Due();
    private static final int LEAST = Integer.MIN_VALUE;
    private static final int MOST = Integer.MAX_VALUE;

    public static void main(String[] args) {
        call();
        callRoom();
        joinInAnyOrder();
        joinRefused();
        searchReach();
        searchFromNow();
        slotByTide();
        slotByRests();
        slotByTugs();
        slotByChannel();
        again();
        dropOfASlot();
        dropOneByOne();
        dropCountsGainsAndLosses();
        dropWithoutASlot();
        dropRefused();
        dropBringsAboard();
        pass();
        passRefused();
        due.close();
    }

    private static void call() {
        Harbour h = Harbour.deep();
        HarbourPilotline x = h.x;
        due.thrown("6: nobody", Due.INDEX, () -> x.call(0, 0));
        h.ship(10, 0);
        h.ship(10, 0);
        for (int wrong : new int[] {-1, 2, LEAST, MOST}) {
            due.thrown("6: call(" + wrong + ", -1)", Due.INDEX, () -> x.call(wrong, -1));
        }
        x.pass(7);
        for (int wrong : new int[] {6, 20001, LEAST, MOST}) {
            due.thrown("6: call(0, " + wrong + ")", Due.ARGUMENT, () -> x.call(0, wrong));
        }
        due.thrown("6: none came of that", Due.INDEX, () -> x.ofConference(0, 0));
        due.same("6: call(1, 7)", 0, () -> x.call(1, 7));
        due.same("6: call(0, 20000)", 1, () -> x.call(0, 20000));
        int[] fresh = {0, -1, -1, 0, 1};
        for (int what = 0; what < 5; what++) {
            int asked = what;
            due.same("6: a new one, " + what, fresh[what], () -> x.ofConference(0, asked));
        }
        due.same("6: two are CALLING", 2, () -> x.count(0));
    }

    private static void callRoom() {
        Harbour h = Harbour.deep();
        h.ship(10, 0);
        for (int i = 0; i < 40; i++) {
            int number = i;
            due.same("6: call " + i, number, () -> h.x.call(0, 0));
        }
        due.thrown("6: a forty-first", Due.STATE, () -> h.x.call(0, 0));
        due.thrown("6: a forty-first, wish out of range", Due.ARGUMENT, () -> h.x.call(0, -1));
        due.thrown("6: a forty-first, no ship", Due.INDEX, () -> h.x.call(1, -1));
        due.same("6: forty", 40, () -> h.x.count(0));
    }

    private static void joinInAnyOrder() {
        int[][] orders = {{0, 1, 2}, {0, 2, 1}, {1, 0, 2}, {1, 2, 0}, {2, 0, 1}, {2, 1, 0}};
        for (int[] order : orders) {
            Harbour h = Harbour.deep();
            h.ship(10, 0);
            h.pilots(2);
            h.x.call(0, 30);
            for (int i = 0; i < 3; i++) {
                int who = order[i];
                String told = "7: order " + order[0] + order[1] + order[2] + ", join " + i;
                due.same(told, i == 2 ? 30 : -1, () -> h.x.join(0, who, who == 2 ? 1 : 99));
                due.same(told + ", in it", i + 1, () -> h.x.ofConference(0, 3));
                due.same(told + ", state", i == 2 ? 2 : 0, () -> h.state(0));
            }
            due.same("7: its pilot", 1, () -> h.x.ofConference(0, 2));
        }
    }

    private static void joinRefused() {
        Harbour h = Harbour.deep();
        HarbourPilotline x = h.x;
        due.thrown("7: no conference", Due.INDEX, () -> x.join(0, 0, 0));
        h.ship(10, 0);
        x.pilot(9, 1);
        x.pilot(10, 1);
        x.call(0, 0);
        for (int wrong : new int[] {-1, 1, LEAST, MOST}) {
            due.thrown("7: join(" + wrong + ", 0, 0)", Due.INDEX, () -> x.join(wrong, 0, 0));
        }
        for (int wrong : new int[] {-1, 3, LEAST, MOST}) {
            due.thrown("7: join(0, " + wrong + ", 0)", Due.INDEX, () -> x.join(0, wrong, 0));
        }
        for (int wrong : new int[] {-1, 2, LEAST, MOST}) {
            due.thrown("7: join(0, 2, " + wrong + ")", Due.INDEX, () -> x.join(0, 2, wrong));
        }
        due.thrown("7: a licence of a ton too little", Due.STATE, () -> x.join(0, 2, 0));
        due.same("7: nobody is in it", 0, () -> x.ofConference(0, 3));
        due.same("7: a licence that just does", -1, () -> x.join(0, 2, 1));
        due.thrown("7: a pilot twice", Due.STATE, () -> x.join(0, 2, 1));
        due.thrown("7: another pilot", Due.STATE, () -> x.join(0, 2, 0));
        due.thrown("7: no such pilot, one is in it", Due.INDEX, () -> x.join(0, 2, 2));
        x.join(0, 0, 0);
        due.thrown("7: the ship twice", Due.STATE, () -> x.join(0, 0, 0));
        x.join(0, 1, 0);
        due.thrown("7: the tower twice", Due.STATE, () -> x.join(0, 1, 0));
        x.pass(10);
        due.thrown("7: DONE", Due.STATE, () -> x.join(0, 1, 0));
        due.same("7: DONE stays", 4, () -> h.state(0));
    }

    private static void searchReach() {
        for (int shift = 0; shift < 2; shift++) {
            Harbour h = Harbour.deep();
            h.ship(120, 0);
            h.pilot();
            h.full(0, shift, 0);
            for (int i = 1; i <= 6; i++) {
                h.full(0, 0, 0);
            }
            due.same("7: the sixth, shift " + shift, 1200 + shift, () -> h.slot(5));
            due.same("7: 1440 behind, shift " + shift, shift == 0 ? 1440 : -1, () -> h.slot(6));
            due.same("7: without a slot JOINED, shift " + shift, shift == 0 ? 2 : 1, () -> h.state(6));
        }
    }

    private static void searchFromNow() {
        Harbour h = Harbour.deep();
        h.ship(10, 0);
        h.ship(120, 0);
        h.pilots(2);
        h.x.call(0, 5);
        h.x.call(0, 20);
        h.x.pass(20);
        due.same("7: from now on", 20, () -> h.fill(0, 0));
        due.same("7: at once ABOARD", 3, () -> h.state(0));
        due.same("7: the channel does 15 behind", 35, () -> h.fill(1, 1));
        due.same("7: SET", 2, () -> h.state(1));

        Harbour late = Harbour.deep();
        late.ship(10, 0);
        late.pilots(1);
        late.passTo(20000);
        late.full(0, 20000, 0);
        late.full(0, 20000, 0);
        due.same("7: at the last minute", 20000, () -> late.slot(0));
        due.same("7: a slot behind the last minute", 20070, () -> late.slot(1));
    }

    private static void slotByTide() {
        Harbour h = new Harbour();
        h.x.ship(129, 1, 19, 0);
        h.x.ship(129, 1, 20, 0);
        h.pilots(2);
        h.full(0, 0, 0);
        due.same("7: high water for 19 minutes", 351, () -> h.slot(0));
        h.full(1, 0, 1);
        due.same("7: none for 20 minutes", -1, () -> h.slot(1));
        h.full(0, 352, 1);
        due.same("7: the next high water", 1071, () -> h.slot(2));
        h.full(0, 1790, 1);
        due.same("7: a minute behind its wish", 1791, () -> h.slot(3));
    }

    private static void slotByRests() {
        int[][] cases = {
            // minutes of the one that is SET at 500, of the other, its wish, its slot
            {30, 90, 320, 320}, {30, 90, 321, 590}, {30, 30, 410, 410}, {30, 30, 411, 590},
            {90, 30, 410, 410}, {90, 30, 411, 680}, {60, 10, 430, 430}, {60, 10, 431, 620},
            {61, 10, 500, 622}, {120, 120, 260, 260}, {120, 120, 261, 740}};
        for (int[] c : cases) {
            Harbour h = Harbour.deep();
            h.ship(c[0], 0);
            h.ship(c[1], 0);
            h.pilots(2);
            h.full(0, 500, 0);
            h.full(1, c[2], 0);
            String told = "7: rests " + c[0] + ", " + c[1] + ", " + c[2];
            due.same(told, c[3], () -> h.slot(1));
            h.full(1, 520, 1);
            due.same(told + ", another pilot", 520, () -> h.slot(2));
        }
    }

    private static void slotByTugs() {
        Harbour h = Harbour.deep();
        h.x.tugs(2);
        h.ship(30, 2);
        h.ship(30, 1);
        h.ship(30, 0);
        h.ship(30, 3);
        h.pilots(8);
        h.full(0, 100, 0);
        h.full(1, 70, 1);
        due.same("7: over as the tugs go out", 70, () -> h.slot(1));
        h.full(1, 71, 2);
        due.same("7: when the tugs are back", 130, () -> h.slot(2));
        h.full(2, 115, 3);
        due.same("7: no tug needed", 115, () -> h.slot(3));
        h.full(3, 1000, 4);
        due.same("7: three are never there", -1, () -> h.slot(4));
        h.x.tugs(1);
        h.full(2, 85, 5);
        due.same("7: none needed, but too many out", 145, () -> h.slot(5));

        Harbour two = Harbour.deep();
        two.x.tugs(2);
        two.ship(30, 1);
        two.ship(60, 1);
        two.pilots(3);
        two.full(0, 100, 0);
        two.full(0, 130, 1);
        two.full(1, 115, 2);
        due.same("7: two others, but never both at once", 115, () -> two.slot(2));
    }

    private static void slotByChannel() {
        Harbour h = Harbour.deep();
        h.ship(10, 0);
        h.pilots(8);
        h.full(0, 100, 0);
        h.full(0, 85, 1);
        due.same("7: 15 ahead", 85, () -> h.slot(1));
        h.full(0, 115, 2);
        due.same("7: 15 behind", 115, () -> h.slot(2));
        h.full(0, 86, 3);
        due.same("7: behind the last", 130, () -> h.slot(3));
        h.full(0, 71, 4);
        due.same("7: none less than 15 ahead", 145, () -> h.slot(4));
        h.full(0, 70, 5);
        due.same("7: another 15 ahead", 70, () -> h.slot(5));
        h.passTo(110);
        due.same("7: DONE by now", 4, () -> h.state(0));
        h.full(0, 110, 6);
        due.same("7: DONE moves count", 160, () -> h.slot(6));
    }

    private static void again() {
        Harbour h = Harbour.deep();
        HarbourPilotline x = h.x;
        due.thrown("8: no conference", Due.INDEX, () -> x.again(0));
        h.ship(10, 1);
        h.pilot();
        x.call(0, 20);
        for (int wrong : new int[] {-1, 1, LEAST, MOST}) {
            due.thrown("8: again(" + wrong + ")", Due.INDEX, () -> x.again(wrong));
        }
        due.thrown("8: CALLING", Due.STATE, () -> x.again(0));
        x.tugs(0);
        h.fill(0, 0);
        due.same("8: JOINED", 1, () -> h.state(0));
        due.same("8: again, in vain", -1, () -> x.again(0));
        due.same("8: still JOINED", 1, () -> h.state(0));
        x.tugs(1);
        due.same("8: more tugs alone do nothing", -1, () -> h.slot(0));
        due.same("8: again", 20, () -> x.again(0));
        due.same("8: SET", 2, () -> h.state(0));
        due.thrown("8: SET, again", Due.STATE, () -> x.again(0));
        x.pass(20);
        due.thrown("8: ABOARD, again", Due.STATE, () -> x.again(0));
        x.pass(10);
        due.thrown("8: DONE, again", Due.STATE, () -> x.again(0));
        due.same("8: the slot stays", 20, () -> h.slot(0));

        Harbour late = Harbour.deep();
        late.ship(10, 1);
        late.pilot();
        late.x.tugs(0);
        late.full(0, 20, 0);
        late.x.pass(33);
        late.x.tugs(1);
        due.same("8: from now on", 33, () -> late.x.again(0));
        due.same("8: at once ABOARD", 3, () -> late.state(0));
    }

    private static void dropOfASlot() {
        for (int who = 0; who < 3; who++) {
            int dropped = who;
            Harbour h = Harbour.deep();
            h.ship(10, 0);
            h.pilots(2);
            h.full(0, 20, 0);
            h.full(0, 20, 1);
            h.full(0, 300, 0);
            due.same("9: ahead of the drop", 35, () -> h.slot(1));
            due.same("9: drop(0, " + who + ")", 1, () -> h.x.drop(0, dropped));
            due.same("9: CALLING", 0, () -> h.state(0));
            due.same("9: its slot is gone", -1, () -> h.slot(0));
            due.same("9: two are in it", 2, () -> h.x.ofConference(0, 3));
            due.same("9: its pilot", who == 2 ? -1 : 0, () -> h.x.ofConference(0, 2));
            due.same("9: the other moved", 20, () -> h.slot(1));
            due.same("9: the third did not", 300, () -> h.slot(2));
            due.same("9: all told by drops", 1, () -> h.x.count(7));
            due.thrown("9: twice", Due.STATE, () -> h.x.drop(0, dropped));
            due.same("9: back in it", 35, () -> h.x.join(0, dropped, 0));
            due.same("9: another drop", 1, () -> h.x.drop(1, dropped));
            due.same("9: moved to 20", 20, () -> h.slot(0));
            due.same("9: all told by drops", 2, () -> h.x.count(7));
        }
    }

    private static void dropOneByOne() {
        Harbour h = Harbour.deep();
        h.ship(10, 0);
        h.pilot();
        h.full(0, 10, 0);
        h.x.call(0, 40);
        h.x.call(0, 30);
        h.fill(2, 0);
        h.fill(1, 0);
        due.same("9: the third at 80", 80, () -> h.slot(2));
        due.same("9: the second at 150", 150, () -> h.slot(1));
        // The second looks first, while the third still has its slot; so only the third moves.
        due.same("9: by numbers, one by one", 1, () -> h.x.drop(0, 0));
        due.same("9: the second stays", 150, () -> h.slot(1));
        due.same("9: the third moves", 30, () -> h.slot(2));
    }

    private static void dropCountsGainsAndLosses() {
        Harbour h = Harbour.deep();
        h.ship(10, 0);
        h.ship(10, 2);
        h.x.ship(200, 10, 10, 0);
        h.pilots(4);
        h.full(0, 20, 0);
        h.full(1, 100, 1);
        h.x.tide(150, 0);
        h.full(2, 200, 2);
        h.x.call(0, 300);
        due.same("9: none yet", -1, () -> h.slot(2));
        h.x.tugs(1);
        h.x.tide(300, 0);
        due.same("9: one loses, one gains", 2, () -> h.x.drop(0, 0));
        due.same("9: lost", -1, () -> h.slot(1));
        due.same("9: the loser is JOINED", 1, () -> h.state(1));
        due.same("9: gained", 200, () -> h.slot(2));
        due.same("9: the gainer is SET", 2, () -> h.state(2));
        due.same("9: CALLING ones do not look", -1, () -> h.slot(3));
        due.same("9: all told", 2, () -> h.x.count(7));
    }

    private static void dropWithoutASlot() {
        Harbour h = Harbour.deep();
        h.x.tugs(0);
        h.ship(10, 1);
        h.pilots(2);
        h.full(0, 20, 0);
        h.full(0, 20, 1);
        h.x.call(0, 20);
        h.x.join(2, 0, 0);
        h.x.tugs(1);
        due.same("9: out of a CALLING one", 0, () -> h.x.drop(2, 0));
        due.same("9: nobody is in it", 0, () -> h.x.ofConference(2, 3));
        due.same("9: nobody looked", 1, () -> h.state(1));
        due.same("9: out of a JOINED one", 0, () -> h.x.drop(0, 2));
        due.same("9: it is CALLING", 0, () -> h.state(0));
        due.same("9: nobody looked then", 1, () -> h.state(1));
        due.same("9: a slot at last", 20, () -> h.x.again(1));
        due.same("9: nothing told", 0, () -> h.x.count(7));
    }

    private static void dropRefused() {
        Harbour h = Harbour.deep();
        HarbourPilotline x = h.x;
        due.thrown("9: no conference", Due.INDEX, () -> x.drop(0, 0));
        h.ship(10, 0);
        h.pilot();
        x.call(0, 5);
        for (int wrong : new int[] {-1, 1, LEAST, MOST}) {
            due.thrown("9: drop(" + wrong + ", 0)", Due.INDEX, () -> x.drop(wrong, 0));
        }
        for (int wrong : new int[] {-1, 3, LEAST, MOST}) {
            due.thrown("9: drop(0, " + wrong + ")", Due.INDEX, () -> x.drop(0, wrong));
        }
        for (int who = 0; who < 3; who++) {
            int absent = who;
            due.thrown("9: not in it, " + who, Due.STATE, () -> x.drop(0, absent));
        }
        h.fill(0, 0);
        x.pass(5);
        due.thrown("9: ABOARD", Due.STATE, () -> x.drop(0, 0));
        due.same("9: it stays ABOARD", 3, () -> h.state(0));
        x.pass(10);
        due.thrown("9: DONE", Due.STATE, () -> x.drop(0, 2));
        due.same("9: it stays DONE", 4, () -> h.state(0));
        due.same("9: its pilot stays", 0, () -> x.ofConference(0, 2));
    }

    private static void dropBringsAboard() {
        Harbour h = Harbour.deep();
        h.ship(10, 0);
        h.pilots(2);
        h.full(0, 14, 0);
        h.full(0, 5, 1);
        due.same("9: behind the first", 29, () -> h.slot(1));
        h.x.pass(6);
        due.same("9: it moves to now", 1, () -> h.x.drop(0, 1));
        due.same("9: now", 6, () -> h.slot(1));
        due.same("9: at once ABOARD", 3, () -> h.state(1));
        due.same("9: back, behind it", 21, () -> h.x.join(0, 1, 0));
        due.same("9: moves under way do not look", 0, () -> h.x.drop(0, 1));
        due.same("9: it stays where it is", 6, () -> h.slot(1));
    }

    private static void pass() {
        Harbour h = Harbour.deep();
        h.ship(10, 1);
        h.pilots(3);
        h.full(0, 20, 0);
        h.full(0, 40, 1);
        h.full(0, 60, 2);
        int[][] steps = {
            // minutes, DONE by that, state of the first
            {19, 0, 2}, {1, 0, 3}, {9, 0, 3}, {1, 1, 4}, {1, 0, 4}, {38, 1, 4}, {1, 1, 4}};
        for (int[] step : steps) {
            String told = "10: from " + h.x.minute() + " by " + step[0];
            due.same(told, step[1], () -> h.x.pass(step[0]));
            due.same(told + ", the first", step[2], () -> h.state(0));
        }
        due.same("10: minute()", 70, h.x::minute);

        Harbour wide = Harbour.deep();
        wide.ship(10, 1);
        wide.pilots(3);
        wide.full(0, 20, 0);
        wide.full(0, 40, 1);
        wide.full(0, 1995, 2);
        due.same("10: two at once", 2, () -> wide.x.pass(2000));
        due.same("10: one is ABOARD", 3, () -> wide.state(2));
        due.same("10: bills", 300, () -> wide.x.bill(0));
    }

    private static void passRefused() {
        Harbour h = Harbour.deep();
        HarbourPilotline x = h.x;
        for (int wrong : new int[] {0, -1, 2001, LEAST, MOST}) {
            due.thrown("10: pass(" + wrong + ")", Due.ARGUMENT, () -> x.pass(wrong));
        }
        h.passTo(19999);
        due.thrown("10: above the last minute", Due.STATE, () -> x.pass(2));
        due.same("10: no minute went by", 19999, x::minute);
        due.same("10: to the last minute", 0, () -> x.pass(1));
        due.thrown("10: at the last minute", Due.STATE, () -> x.pass(1));
        due.thrown("10: at the last minute, out of range", Due.ARGUMENT, () -> x.pass(2001));
        due.same("10: the last minute", 20000, x::minute);
    }
}
