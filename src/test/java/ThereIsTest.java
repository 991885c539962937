/** Promises 1 to 5: what there is. */
public final class ThereIsTest {
    private static final Due due = new Due();
    private static final int LEAST = Integer.MIN_VALUE;
    private static final int MOST = Integer.MAX_VALUE;

    public static void main(String[] args) {
        aNewObject();
        tide();
        tideLetsSlotsStay();
        tugs();
        shipRanges();
        shipRoom();
        pilotRanges();
        pilotRoom();
        due.close();
    }

    private static void aNewObject() {
        HarbourPilotline x = new HarbourPilotline();
        due.same("1: minute()", 0, x::minute);
        for (int what = 0; what <= 7; what++) {
            int asked = what;
            due.same("1: count(" + what + ")", 0, () -> x.count(asked));
        }
        due.thrown("1: bill(0)", Due.INDEX, () -> x.bill(0));
        due.thrown("1: rested(0)", Due.INDEX, () -> x.rested(0));
        due.thrown("1: ofConference(0, 0)", Due.INDEX, () -> x.ofConference(0, 0));
        due.same("1: tugs(2)", 2, () -> x.tugs(2));
        due.same("1: level(360)", 40, () -> x.level(360));
        x.ship(90, 1, 10, 0);
        x.ship(91, 1, 10, 0);
        due.same("1: depth 100, window(0, 0)", 0, () -> x.window(0, 0));
        due.same("1: depth 100, window(1, 0)", 9, () -> x.window(1, 0));
    }

    private static void tide() {
        HarbourPilotline x = new HarbourPilotline();
        x.ship(1, 1, 10, 0);
        x.ship(2, 1, 10, 0);
        x.ship(290, 1, 10, 0);
        x.ship(291, 1, 10, 0);
        x.tide(11, 0);
        due.same("2: depth 11, window(0, 0)", 0, () -> x.window(0, 0));
        due.same("2: depth 11, window(1, 0)", -1, () -> x.window(1, 0));
        x.tide(10, 200);
        due.same("2: rise 200, level(360)", 200, () -> x.level(360));
        x.tide(300, 0);
        due.same("2: rise 0, level(360)", 0, () -> x.level(360));
        due.same("2: depth 300, window(2, 0)", 0, () -> x.window(2, 0));
        due.same("2: depth 300, window(3, 0)", -1, () -> x.window(3, 0));
        int[][] wrong = {{9, 0}, {301, 0}, {10, -1}, {10, 201}, {LEAST, 0}, {MOST, 0}, {10, LEAST}, {10, MOST}};
        for (int[] pair : wrong) {
            due.thrownBy("2: tide(" + pair[0] + ", " + pair[1] + ")", Due.ARGUMENT, () -> x.tide(pair[0], pair[1]));
        }
        due.same("2: a tide refused, level(360)", 0, () -> x.level(360));
        due.same("2: a tide refused, window(2, 0)", 0, () -> x.window(2, 0));
    }

    private static void tideLetsSlotsStay() {
        Harbour h = Harbour.deep();
        h.ship(10, 0);
        h.pilot();
        h.full(0, 5, 0);
        h.x.tide(10, 0);
        due.same("2: the slot stays", 5, () -> h.slot(0));
        due.same("2: SET stays", 2, () -> h.state(0));
        due.same("2: why(0, 5)", 1, () -> h.x.why(0, 5));
        h.passTo(5);
        due.same("2: it goes ABOARD all the same", 3, () -> h.state(0));
    }

    private static void tugs() {
        Harbour h = new Harbour();
        HarbourPilotline x = h.x;
        due.same("3: tugs(0)", 2, () -> x.tugs(0));
        due.same("3: tugs(6)", 0, () -> x.tugs(6));
        for (int wrong : new int[] {-1, 7, LEAST, MOST}) {
            due.thrown("3: tugs(" + wrong + ")", Due.ARGUMENT, () -> x.tugs(wrong));
        }
        due.same("3: tugs(3)", 6, () -> x.tugs(3));
        h.ship(10, 3);
        h.pilot();
        h.full(0, 5, 0);
        due.same("3: three tugs do", 5, () -> h.slot(0));
        due.same("3: tugs(2)", 3, () -> x.tugs(2));
        due.same("3: the slot stays", 5, () -> h.slot(0));
        due.same("3: why(0, 5)", 3, () -> x.why(0, 5));
        due.same("3: none is out ahead of it", 0, () -> x.count(5));
        h.passTo(5);
        due.same("3: three are out", 3, () -> x.count(5));
    }

    private static void shipRanges() {
        HarbourPilotline x = new HarbourPilotline();
        int[] least = {1, 1, 10, 0};
        int[] most = {400, 9999, 120, 3};
        due.same("4: the least ship", 0, () -> x.ship(least[0], least[1], least[2], least[3]));
        due.same("4: the most ship", 1, () -> x.ship(most[0], most[1], most[2], most[3]));
        for (int part = 0; part < 4; part++) {
            for (int wrong : new int[] {least[part] - 1, most[part] + 1, LEAST, MOST}) {
                int[] s = least.clone();
                s[part] = wrong;
                due.thrown("4: part " + part + " is " + wrong, Due.ARGUMENT, () -> x.ship(s[0], s[1], s[2], s[3]));
            }
        }
        due.thrown("4: no ship came of that", Due.INDEX, () -> x.bill(2));
        due.same("4: the next ship", 2, () -> x.ship(1, 1, 10, 0));
        due.same("4: it owes nothing", 0, () -> x.bill(2));
    }

    private static void shipRoom() {
        HarbourPilotline x = new HarbourPilotline();
        for (int i = 0; i < 12; i++) {
            int number = i;
            due.same("4: ship " + i, number, () -> x.ship(1, 1, 10, 0));
        }
        due.thrown("4: a thirteenth ship", Due.STATE, () -> x.ship(1, 1, 10, 0));
        due.thrown("4: a thirteenth ship, out of range", Due.ARGUMENT, () -> x.ship(0, 1, 10, 0));
        due.same("4: the twelfth is there", 0, () -> x.bill(11));
        due.thrown("4: a thirteenth is not", Due.INDEX, () -> x.bill(12));
    }

    private static void pilotRanges() {
        HarbourPilotline x = new HarbourPilotline();
        due.same("5: the least pilot", 0, () -> x.pilot(1, 1));
        due.same("5: the most pilot", 1, () -> x.pilot(9999, 50));
        int[][] wrong = {{0, 1}, {10000, 1}, {1, 0}, {1, 51}, {LEAST, 1}, {MOST, 1}, {1, LEAST}, {1, MOST}};
        for (int[] pair : wrong) {
            due.thrown("5: pilot(" + pair[0] + ", " + pair[1] + ")", Due.ARGUMENT, () -> x.pilot(pair[0], pair[1]));
        }
        due.thrown("5: no pilot came of that", Due.INDEX, () -> x.rested(2));
        due.same("5: the next pilot", 2, () -> x.pilot(1, 1));
    }

    private static void pilotRoom() {
        HarbourPilotline x = new HarbourPilotline();
        for (int i = 0; i < 8; i++) {
            int number = i;
            due.same("5: pilot " + i, number, () -> x.pilot(1, 1));
        }
        due.thrown("5: a ninth pilot", Due.STATE, () -> x.pilot(1, 1));
        due.thrown("5: a ninth pilot, out of range", Due.ARGUMENT, () -> x.pilot(1, 51));
        due.same("5: the eighth is there", 0, () -> x.rested(7));
        due.thrown("5: a ninth is not", Due.INDEX, () -> x.rested(8));
    }
}
