/** A harbour of a test, with short ways to come to a state. */
final class Harbour {
    final HarbourPilotline x = new HarbourPilotline();

    /** A channel so deep that the tide does for all ships of these tests, and six tugs. */
    static Harbour deep() {
        Harbour made = new Harbour();
        made.x.tide(300, 0);
        made.x.tugs(6);
        return made;
    }

    /** A light ship, of so many minutes and tugs. */
    int ship(int minutes, int tugs) {
        return x.ship(50, 10, minutes, tugs);
    }

    void ships(int many) {
        for (int i = 0; i < many; i++) {
            ship(10, 0);
        }
    }

    int pilot() {
        return x.pilot(10, 5);
    }

    void pilots(int many) {
        for (int i = 0; i < many; i++) {
            pilot();
        }
    }

    /** So many conferences of ship 0 that wish for now, with nobody in them. */
    void calls(int many) {
        for (int i = 0; i < many; i++) {
            x.call(0, x.minute());
        }
    }

    /** Twelve ships, eight pilots and forty conferences: no more has room. */
    static Harbour crowded() {
        Harbour made = deep();
        made.ships(12);
        made.pilots(8);
        made.calls(40);
        return made;
    }

    /** One ship, one pilot, and a conference of them that wishes for minute 20, with nobody in it. */
    static Harbour oneCalling() {
        Harbour made = deep();
        made.ship(10, 1);
        made.pilot();
        made.x.call(0, 20);
        return made;
    }

    /** The same, JOINED: there was no tug as it looked for a slot; now there are six. */
    static Harbour oneJoined() {
        Harbour made = oneCalling();
        made.x.tugs(0);
        made.fill(0, 0);
        made.x.tugs(6);
        return made;
    }

    /** The same, SET at minute 20, to be over at 30. */
    static Harbour oneSet() {
        Harbour made = oneCalling();
        made.fill(0, 0);
        return made;
    }

    static Harbour oneAboard() {
        Harbour made = oneSet();
        made.x.pass(20);
        return made;
    }

    static Harbour oneDone() {
        Harbour made = oneAboard();
        made.x.pass(10);
        return made;
    }

    /** How conference 0 comes to each of the five states, by their numbers. */
    static Edges.Made[] states() {
        return new Edges.Made[] {Harbour::oneCalling, Harbour::oneJoined, Harbour::oneSet, Harbour::oneAboard,
            Harbour::oneDone};
    }

    /** A conference with all three in it; its number. */
    int full(int ship, int wish, int pilot) {
        int conference = x.call(ship, wish);
        fill(conference, pilot);
        return conference;
    }

    int fill(int conference, int pilot) {
        x.join(conference, HarbourPilotline.SHIP, 0);
        x.join(conference, HarbourPilotline.TOWER, 0);
        return x.join(conference, HarbourPilotline.PILOT, pilot);
    }

    int state(int conference) {
        return x.ofConference(conference, 0);
    }

    int slot(int conference) {
        return x.ofConference(conference, 1);
    }

    /** Ten steps lead from the first minute to the last; more of them would be a fault of the clock. */
    void passTo(int minute) {
        for (int step = 0; step < 10 && x.minute() < minute; step++) {
            x.pass(Math.min(2000, minute - x.minute()));
        }
    }
}
