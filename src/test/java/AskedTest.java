/** Promises 11 to 20: what is asked. */
public final class AskedTest {
    private static final Due due = new Due();
    private static final int LEAST = Integer.MIN_VALUE;
    private static final int MOST = Integer.MAX_VALUE;

    public static void main(String[] args) {
        minute();
        level();
        window();
        windowRefused();
        ofConference();
        whyOneByOne();
        whyAnyState();
        whyRefused();
        rested();
        billsAndPilots();
        count();
        due.close();
    }

    private static void minute() {
        HarbourPilotline x = new HarbourPilotline();
        x.pass(1);
        x.pass(2000);
        due.same("11: minute()", 2001, x::minute);
    }

    private static void level() {
        HarbourPilotline x = new HarbourPilotline();
        int[][] levels = {{0, 0}, {8, 0}, {9, 1}, {17, 1}, {18, 2}, {359, 39}, {360, 40}, {361, 39}, {711, 1},
            {712, 0}, {720, 0}, {729, 1}, {1080, 40}, {20000, 17}, {29999, 26}, {30000, 26}};
        for (int[] pair : levels) {
            due.same("12: level(" + pair[0] + ")", pair[1], () -> x.level(pair[0]));
        }
        x.tide(10, 199);
        due.same("12: rounded down", 99, () -> x.level(180));
        for (int wrong : new int[] {-1, 30001, LEAST, MOST}) {
            due.thrown("12: level(" + wrong + ")", Due.ARGUMENT, () -> x.level(wrong));
        }
    }

    private static void window() {
        HarbourPilotline x = new HarbourPilotline();
        x.ship(129, 1, 19, 0);
        x.ship(129, 1, 20, 0);
        x.ship(90, 1, 120, 3);
        x.ship(91, 1, 10, 0);
        due.same("13: at high water", 351, () -> x.window(0, 0));
        due.same("13: just then", 351, () -> x.window(0, 351));
        due.same("13: a minute late", 1071, () -> x.window(0, 352));
        due.same("13: a minute too long", -1, () -> x.window(1, 0));
        due.same("13: no tide needed", 20000, () -> x.window(2, 20000));
        due.same("13: over as the water goes", 702, () -> x.window(3, 702));
        due.same("13: from the next minute on", 729, () -> x.window(3, 703));
        due.same("13: a minute ahead of it", 729, () -> x.window(3, 728));
        due.same("13: behind the last minute", 20511, () -> x.window(0, 20000));
        x.pass(2000);
        due.same("13: ahead of now", 351, () -> x.window(0, 0));
    }

    private static void windowRefused() {
        HarbourPilotline x = new HarbourPilotline();
        due.thrown("13: nobody", Due.INDEX, () -> x.window(0, -1));
        x.ship(129, 1, 19, 0);
        for (int wrong : new int[] {-1, 1, LEAST, MOST}) {
            due.thrown("13: window(" + wrong + ", 20001)", Due.INDEX, () -> x.window(wrong, 20001));
        }
        for (int wrong : new int[] {-1, 20001, LEAST, MOST}) {
            due.thrown("13: window(0, " + wrong + ")", Due.ARGUMENT, () -> x.window(0, wrong));
        }
    }

    private static void ofConference() {
        Harbour h = Harbour.deep();
        HarbourPilotline x = h.x;
        due.thrown("14: no conference", Due.INDEX, () -> x.ofConference(0, 0));
        h.ship(10, 0);
        h.ship(10, 0);
        h.pilots(3);
        x.call(1, 40);
        int[][] rows = {{0, -1, -1, 0, 1}, {0, -1, 2, 1, 1}, {0, -1, 2, 2, 1}, {2, 40, 2, 3, 1}, {3, 40, 2, 3, 1},
            {4, 40, 2, 3, 1}};
        for (int i = 0; i < rows.length; i++) {
            for (int what = 0; what < 5; what++) {
                int asked = what;
                due.same("14: row " + i + ", " + what, rows[i][what], () -> x.ofConference(0, asked));
            }
            switch (i) {
                case 0: x.join(0, 2, 2); break;
                case 1: x.join(0, 0, 0); break;
                case 2: x.join(0, 1, 0); break;
                case 3: x.pass(40); break;
                default: x.pass(10); break;
            }
        }
        for (int wrong : new int[] {-1, 5, LEAST, MOST}) {
            due.thrown("14: ofConference(0, " + wrong + ")", Due.INDEX, () -> x.ofConference(0, wrong));
        }
        for (int wrong : new int[] {-1, 1, LEAST, MOST}) {
            due.thrown("14: ofConference(" + wrong + ", 0)", Due.INDEX, () -> x.ofConference(wrong, 0));
        }
        x.tugs(0);
        x.ship(1, 10, 10, 1);
        int joined = h.full(2, 100, 1);
        due.same("14: JOINED", 1, () -> x.ofConference(joined, 0));
        due.same("14: no slot", -1, () -> x.ofConference(joined, 1));
    }

    private static void whyOneByOne() {
        Harbour h = new Harbour();
        HarbourPilotline x = h.x;
        x.ship(91, 10, 30, 1);
        x.ship(50, 10, 60, 2);
        h.pilots(2);
        h.full(1, 200, 0);
        x.call(0, 0);
        x.join(1, 2, 0);
        // pilot 0 may begin at most at 110, or from 320 on; tugs are out from 200 to 259; the channel is
        // closed from 186 to 214; the tide is too low to minute 8, from 712 to 728 and so on.
        int[][] same = {{0, 1}, {8, 1}, {9, 0}, {110, 0}, {111, 2}, {171, 2}, {200, 2}, {319, 2}, {320, 0},
            {682, 0}, {683, 1}, {728, 1}, {729, 0}, {21440, 0}};
        for (int[] pair : same) {
            due.same("15: the same pilot at " + pair[0], pair[1], () -> x.why(1, pair[0]));
        }
        x.drop(1, 2);
        x.join(1, 2, 1);
        int[][] other = {{8, 1}, {9, 0}, {170, 0}, {171, 3}, {200, 3}, {259, 3}, {260, 0}};
        for (int[] pair : other) {
            due.same("15: another pilot at " + pair[0], pair[1], () -> x.why(1, pair[0]));
        }
        x.tugs(3);
        int[][] tugs = {{185, 0}, {186, 4}, {200, 4}, {214, 4}, {215, 0}};
        for (int[] pair : tugs) {
            due.same("15: three tugs at " + pair[0], pair[1], () -> x.why(1, pair[0]));
        }
    }

    private static void whyAnyState() {
        Harbour h = Harbour.deep();
        HarbourPilotline x = h.x;
        h.ship(30, 3);
        h.pilot();
        h.full(0, 100, 0);
        x.tugs(3);
        due.same("15: its own slot does not matter", 0, () -> x.why(0, 100));
        due.same("15: nor its wish", 0, () -> x.why(0, 50));
        due.same("15: asking changes nothing", 100, () -> h.slot(0));
        x.pass(100);
        due.same("15: ABOARD", 0, () -> x.why(0, 100));
        x.pass(30);
        due.same("15: DONE", 0, () -> x.why(0, 130));
        x.tugs(0);
        due.same("15: no tugs", 3, () -> x.why(0, 130));
        h.full(0, 130, 0);
        due.same("15: JOINED", 1, () -> h.state(1));
        due.same("15: a DONE move's rest comes first", 2, () -> x.why(1, 189));
        due.same("15: behind it", 3, () -> x.why(1, 190));
    }

    private static void whyRefused() {
        Harbour h = Harbour.deep();
        HarbourPilotline x = h.x;
        due.thrown("15: no conference", Due.INDEX, () -> x.why(0, -1));
        h.ship(10, 0);
        h.pilot();
        x.call(0, 20);
        x.pass(5);
        for (int wrong : new int[] {-1, 1, LEAST, MOST}) {
            due.thrown("15: why(" + wrong + ", 4)", Due.INDEX, () -> x.why(wrong, 4));
        }
        for (int wrong : new int[] {4, 21441, LEAST, MOST}) {
            due.thrown("15: why(0, " + wrong + ")", Due.ARGUMENT, () -> x.why(0, wrong));
        }
        x.join(0, 0, 0);
        x.join(0, 1, 0);
        due.thrown("15: no pilot", Due.STATE, () -> x.why(0, 5));
        x.join(0, 2, 0);
        due.same("15: now", 0, () -> x.why(0, 5));
        due.same("15: the last", 0, () -> x.why(0, 21440));
        x.drop(0, 2);
        due.thrown("15: the pilot dropped", Due.STATE, () -> x.why(0, 5));
    }

    private static void rested() {
        Harbour h = Harbour.deep();
        HarbourPilotline x = h.x;
        h.ship(30, 0);
        h.ship(90, 0);
        h.pilots(2);
        both(h, "nothing yet", 0, 0);
        h.full(0, 300, 0);
        both(h, "half an hour", 0, 390);
        both(h, "the other", 1, 0);
        h.full(1, 20, 0);
        both(h, "an earlier one", 0, 390);
        h.full(1, 600, 0);
        both(h, "an hour and a half", 0, 780);
        x.call(0, 900);
        x.join(3, 2, 0);
        both(h, "in one that is CALLING", 0, 780);
        x.drop(2, 1);
        both(h, "a slot gone", 0, 390);
        x.pass(300);
        both(h, "ABOARD", 0, 390);
        x.pass(30);
        both(h, "DONE", 0, 390);
        x.pass(59);
        both(h, "nearly rested", 0, 390);
        x.pass(2);
        both(h, "at least now", 0, 391);
        both(h, "the other, now", 1, 391);
        for (int wrong : new int[] {-1, 2, LEAST, MOST}) {
            due.thrown("16: rested(" + wrong + ")", Due.INDEX, () -> x.rested(wrong));
            due.thrown("17: restedAnew(" + wrong + ")", Due.INDEX, () -> x.restedAnew(wrong));
        }
    }

    private static void both(Harbour h, String told, int pilot, int want) {
        due.same("16: " + told, want, () -> h.x.rested(pilot));
        due.same("17: " + told, want, () -> h.x.restedAnew(pilot));
    }

    private static void billsAndPilots() {
        Harbour h = Harbour.deep();
        HarbourPilotline x = h.x;
        h.ship(30, 2);
        h.ship(90, 0);
        x.pilot(10, 7);
        x.pilot(10, 50);
        h.full(0, 100, 0);
        h.full(1, 115, 1);
        h.full(0, 400, 0);
        int[][] rows = {
            // minute, bills of both ships, then all of both pilots, and all bills
            {99, 0, 0, 0, 0, 0, 0, 0, 0, 0, 0, 0},
            {100, 0, 0, 0, 0, 1, 0, 0, 0, 0, 0, 0},
            {129, 0, 0, 0, 0, 1, 0, 0, 0, 1, 0, 0},
            {130, 410, 0, 1, 30, 0, 210, 0, 0, 1, 0, 410},
            {204, 410, 0, 1, 30, 0, 210, 0, 0, 1, 0, 410},
            {205, 410, 4500, 1, 30, 0, 210, 1, 90, 0, 4500, 4910},
            {410, 410, 4500, 1, 30, 1, 210, 1, 90, 0, 4500, 4910},
            {430, 820, 4500, 2, 60, 0, 420, 1, 90, 0, 4500, 5320}};
        for (int[] row : rows) {
            h.passTo(row[0]);
            for (int ship = 0; ship < 2; ship++) {
                int asked = ship;
                due.same("18: bill(" + ship + ") at " + row[0], row[1 + ship], () -> x.bill(asked));
            }
            for (int i = 0; i < 8; i++) {
                int part = i;
                due.same("19: ofPilot, " + i + " at " + row[0], row[3 + i], () -> x.ofPilot(part / 4, part % 4));
            }
            due.same("20: all bills at " + row[0], row[11], () -> x.count(6));
        }
        for (int wrong : new int[] {-1, 2, LEAST, MOST}) {
            due.thrown("18: bill(" + wrong + ")", Due.INDEX, () -> x.bill(wrong));
            due.thrown("19: ofPilot(" + wrong + ", 0)", Due.INDEX, () -> x.ofPilot(wrong, 0));
        }
        for (int wrong : new int[] {-1, 4, LEAST, MOST}) {
            due.thrown("19: ofPilot(0, " + wrong + ")", Due.INDEX, () -> x.ofPilot(0, wrong));
        }
    }

    private static void count() {
        Harbour h = Harbour.deep();
        HarbourPilotline x = h.x;
        x.tugs(5);
        h.ship(10, 2);
        h.ship(120, 3);
        h.ship(10, 0);
        h.pilots(5);
        x.call(0, 0);
        h.full(0, 1, 0);
        h.full(1, 16, 1);
        h.full(2, 31, 2);
        h.full(1, 200, 3);
        h.full(0, 220, 4);
        x.tugs(1);
        h.full(0, 0, 0);
        int[][] rows = {
            {0, 1, 1, 5, 0, 0, 0}, {1, 1, 1, 4, 1, 0, 2}, {16, 1, 1, 3, 1, 1, 3}, {31, 1, 1, 2, 2, 1, 3},
            {41, 1, 1, 2, 1, 2, 3}, {136, 1, 1, 2, 0, 3, 0}, {220, 1, 1, 0, 2, 3, 5}, {320, 1, 1, 0, 0, 5, 0}};
        for (int[] row : rows) {
            h.passTo(row[0]);
            for (int what = 0; what <= 5; what++) {
                int asked = what;
                due.same("20: count(" + what + ") at " + row[0], row[1 + what], () -> x.count(asked));
            }
        }
        for (int wrong : new int[] {-1, 8, LEAST, MOST}) {
            due.thrown("20: count(" + wrong + ")", Due.ARGUMENT, () -> x.count(wrong));
        }
    }
}
