/** A harbour of a test, with short ways to come to a state. */
final class Harbour {
    final HarbourPilotline x = new HarbourPilotline();

    /** A channel so deep that the tide does for all ships of these tests, and six tugs. */
    static Harbour deep() {
        Harbour made = new Harbour();
        made.x.tide(300, 0);
        made.x.tugs(6);
        return made;
    }

    /** A light ship, of so many minutes and tugs. */
    int ship(int minutes, int tugs) {
        return x.ship(50, 10, minutes, tugs);
    }

    int pilot() {
        return x.pilot(10, 5);
    }

    void pilots(int many) {
        for (int i = 0; i < many; i++) {
            pilot();
        }
    }

    /** A conference with all three in it; its number. */
    int full(int ship, int wish, int pilot) {
        int conference = x.call(ship, wish);
        fill(conference, pilot);
        return conference;
    }

    int fill(int conference, int pilot) {
        x.join(conference, HarbourPilotline.SHIP, 0);
        x.join(conference, HarbourPilotline.TOWER, 0);
        return x.join(conference, HarbourPilotline.PILOT, pilot);
    }

    int state(int conference) {
        return x.ofConference(conference, 0);
    }

    int slot(int conference) {
        return x.ofConference(conference, 1);
    }

    void passTo(int minute) {
        while (x.minute() < minute) {
            x.pass(Math.min(2000, minute - x.minute()));
        }
    }
}
