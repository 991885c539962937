import java.util.ArrayList;

/** Pilots, tides and a dispatch exchange; the document ../shared/DOC.md says what each call does. */
public final class HarbourPilotline {
    public static final int NONE = -1;
    public static final int SHIP = 0, TOWER = 1, PILOT = 2;
    public static final int CALLING = 0, JOINED = 1, SET = 2, ABOARD = 3, DONE = 4;
    public static final int DOES = 0, TIDE = 1, RESTS = 2, TUGS = 3, CHANNEL = 4;

    private static final int LAST_MINUTE = 20000;
    private static final int LAST_LEVEL = 30000;
    private static final int LONGEST_WAIT = 1440;
    private static final int LEAST_APART = 15;
    private static final int TUG_PRICE = 100;
    private static final int MOST_SHIPS = 12;
    private static final int MOST_PILOTS = 8;
    private static final int MOST_CONFERENCES = 40;

    private final Tide tide;
    private final ArrayList<Ship> ships;
    private final ArrayList<Pilot> pilots;
    private final ArrayList<Conference> conferences;
    private int tugs;
    private int now;
    private int toldByDrops;

    public HarbourPilotline() {
        tide = new Tide();
        ships = new ArrayList<>();
        pilots = new ArrayList<>();
        conferences = new ArrayList<>();
        tugs = 2;
    }

    // ---- what there is

    public void tide(int depth, int rise) throws IllegalArgumentException {
        demandWithin(depth, 10, 300);
        demandWithin(rise, 0, 200);
        tide.depth = depth;
        tide.rise = rise;
    }

    public int tugs(int tugs) throws IllegalArgumentException {
        demandWithin(tugs, 0, 6);
        int before = this.tugs;
        this.tugs = tugs;
        return before;
    }

    public int ship(int draught, int tons, int minutes, int tugs)
            throws IllegalArgumentException, IllegalStateException {
        demandWithin(draught, 1, 400);
        demandWithin(tons, 1, 9999);
        demandWithin(minutes, 10, 120);
        demandWithin(tugs, 0, 3);
        int number = ships.size();
        demandRoom(number, MOST_SHIPS);
        ships.add(new Ship(number, draught, tons, minutes, tugs));
        return number;
    }

    public int pilot(int licence, int rate) throws IllegalArgumentException, IllegalStateException {
        demandWithin(licence, 1, 9999);
        demandWithin(rate, 1, 50);
        int number = pilots.size();
        demandRoom(number, MOST_PILOTS);
        pilots.add(new Pilot(number, licence, rate));
        return number;
    }

    // ---- calls

    public int call(int ship, int wish)
            throws IndexOutOfBoundsException, IllegalArgumentException, IllegalStateException {
        Ship mover = shipAt(ship);
        demandWithin(wish, now, LAST_MINUTE);
        int number = conferences.size();
        demandRoom(number, MOST_CONFERENCES);
        conferences.add(new Conference(mover, wish));
        return number;
    }

    public int join(int conference, int who, int pilot)
            throws IndexOutOfBoundsException, IllegalStateException {
        Conference joined = conferenceAt(conference);
        demandWho(who);
        Pilot guide = who == PILOT ? pilotAt(pilot) : null;
        if (joined.hasIn(who)) {
            throw new IllegalStateException("in it already");
        }
        if (guide != null && guide.licence < joined.ship.tons) {
            throw new IllegalStateException("the licence does not do");
        }
        joined.letIn(who, guide);
        if (joined.howManyIn() == 3) {
            lookForSlot(joined);
        }
        return joined.slot;
    }

    public int again(int conference) throws IndexOutOfBoundsException, IllegalStateException {
        Conference looking = conferenceAt(conference);
        if (looking.state != JOINED) {
            throw new IllegalStateException("not JOINED");
        }
        lookForSlot(looking);
        return looking.slot;
    }

    public int drop(int conference, int who) throws IndexOutOfBoundsException, IllegalStateException {
        Conference left = conferenceAt(conference);
        demandWho(who);
        if (!left.hasIn(who)) {
            throw new IllegalStateException("not in it");
        }
        if (left.state == ABOARD || left.state == DONE) {
            throw new IllegalStateException("ABOARD or DONE");
        }
        boolean hadSlot = left.slot != NONE;
        left.letOut(who);
        int moved = hadSlot ? lookAnew() : 0;
        toldByDrops += moved;
        return moved;
    }

    public int pass(int minutes) throws IllegalArgumentException, IllegalStateException {
        demandWithin(minutes, 1, 2000);
        if (now + minutes > LAST_MINUTE) {
            throw new IllegalStateException("above the last minute");
        }
        now += minutes;
        int done = 0;
        for (int i = 0; i < conferences.size(); i++) {
            if (becomesDone(conferences.get(i))) {
                done++;
            }
        }
        return done;
    }

    // ---- what is asked

    public int minute() {
        return now;
    }

    public int level(int minute) throws IllegalArgumentException {
        demandWithin(minute, 0, LAST_LEVEL);
        return tide.aboveDepth(minute);
    }

    public int window(int ship, int from) throws IndexOutOfBoundsException, IllegalArgumentException {
        Ship mover = shipAt(ship);
        demandWithin(from, 0, LAST_MINUTE);
        int last = from + LONGEST_WAIT;
        int minute = from;
        while (minute <= last) {
            int next = tide.pastShallows(mover, minute);
            if (next == minute) {
                return minute;
            }
            minute = Math.max(minute + 1, next);
        }
        return NONE;
    }

    public int ofConference(int conference, int what) throws IndexOutOfBoundsException {
        Conference asked = conferenceAt(conference);
        switch (what) {
            case 0: return asked.state;
            case 1: return asked.slot;
            case 2: return asked.pilot == null ? NONE : asked.pilot.number;
            case 3: return asked.howManyIn();
            case 4: return asked.ship.number;
            default: throw new IndexOutOfBoundsException("what is out of range");
        }
    }

    public int why(int conference, int minute)
            throws IndexOutOfBoundsException, IllegalArgumentException, IllegalStateException {
        Conference asked = conferenceAt(conference);
        demandWithin(minute, now, LAST_MINUTE + LONGEST_WAIT);
        if (asked.pilot == null) {
            throw new IllegalStateException("no pilot is in it");
        }
        if (tide.pastShallows(asked.ship, minute) != minute) {
            return TIDE;
        }
        if (pastRests(asked, minute) != minute) {
            return RESTS;
        }
        if (pastTugs(asked, minute) != minute) {
            return TUGS;
        }
        return pastChannel(asked, minute) != minute ? CHANNEL : DOES;
    }

    public int rested(int pilot) throws IndexOutOfBoundsException {
        return restedBehindSlots(pilotAt(pilot));
    }

    public int restedAnew(int pilot) throws IndexOutOfBoundsException {
        return restedBehindSlots(pilotAt(pilot));
    }

    public int bill(int ship) throws IndexOutOfBoundsException {
        return shipAt(ship).owes;
    }

    public int ofPilot(int pilot, int what) throws IndexOutOfBoundsException {
        Pilot asked = pilotAt(pilot);
        switch (what) {
            case 0: return asked.movesDone;
            case 1: return asked.minutesDone;
            case 2: return isAboard(asked) ? 1 : 0;
            case 3: return asked.minutesDone * asked.rate;
            default: throw new IndexOutOfBoundsException("what is out of range");
        }
    }

    public int count(int what) throws IllegalArgumentException {
        demandWithin(what, 0, 7);
        switch (what) {
            case 5: return tugsOfOthers(null, now, now);
            case 6: return allBills();
            case 7: return toldByDrops;
            default: return howManyAre(what);
        }
    }

    // ---- what is demanded of arguments

    private static void demandWithin(int value, int least, int most) {
        if (value < least || value > most) {
            throw new IllegalArgumentException("out of range");
        }
    }

    private static void demandRoom(int size, int most) {
        if (size >= most) {
            throw new IllegalStateException("no more room");
        }
    }

    private static void demandWho(int who) {
        if (who < SHIP || who > PILOT) {
            throw new IndexOutOfBoundsException("who is out of range");
        }
    }

    private Ship shipAt(int number) {
        if (number < 0 || number >= ships.size()) {
            throw new IndexOutOfBoundsException("no such ship");
        }
        return ships.get(number);
    }

    private Pilot pilotAt(int number) {
        if (number < 0 || number >= pilots.size()) {
            throw new IndexOutOfBoundsException("no such pilot");
        }
        return pilots.get(number);
    }

    private Conference conferenceAt(int number) {
        if (number < 0 || number >= conferences.size()) {
            throw new IndexOutOfBoundsException("no such conference");
        }
        return conferences.get(number);
    }

    // ---- slots

    /** Lets all that are SET or JOINED look for slots, and tells how many got another one, or none. */
    private int lookAnew() {
        int moved = 0;
        for (int i = 0; i < conferences.size(); i++) {
            Conference other = conferences.get(i);
            if (other.state == SET || other.state == JOINED) {
                int before = other.slot;
                lookForSlot(other);
                if (other.slot != before) {
                    moved++;
                }
            }
        }
        return moved;
    }

    /** A former slot is let go by that: no search counts the own slot of the one that looks. */
    private void lookForSlot(Conference looking) {
        looking.slot = earliestSlot(looking);
        if (looking.slot == NONE) {
            looking.state = JOINED;
        } else {
            looking.state = looking.slot == now ? ABOARD : SET;
        }
    }

    private int earliestSlot(Conference looking) {
        int from = Math.max(looking.wish, now);
        int last = from + LONGEST_WAIT;
        int minute = from;
        while (minute <= last) {
            int next = tide.pastShallows(looking.ship, minute);
            next = pastRests(looking, next);
            next = pastChannel(looking, next);
            next = pastTugs(looking, next);
            if (next == minute) {
                return minute;
            }
            minute = Math.max(minute + 1, next);
        }
        return NONE;
    }

    // Each past... answers the minute itself if it does for a move to begin; if not, a later one,
    // and none between the two does: so a search may go on from there.

    private int pastRests(Conference mover, int minute) {
        int next = minute;
        for (int i = 0; i < conferences.size(); i++) {
            Conference other = conferences.get(i);
            if (other != mover && other.slot != NONE && other.pilot == mover.pilot) {
                int otherRested = other.slot + other.ship.minutesWithRest();
                if (minute < otherRested && other.slot < minute + mover.ship.minutesWithRest()) {
                    next = Math.max(next, otherRested);
                }
            }
        }
        return next;
    }

    private int pastTugs(Conference mover, int minute) {
        int last = minute + mover.ship.minutes - 1;
        int left = tugs - mover.ship.tugs;
        // Most moves find tugs enough for all that they meet at any time: no look at each minute then.
        if (tugsOfOthers(mover, minute, last) <= left) {
            return minute;
        }
        for (int at = last; at >= minute; at--) {
            if (tugsOfOthers(mover, at, at) > left) {
                return at + 1;
            }
        }
        return minute;
    }

    private int pastChannel(Conference mover, int minute) {
        int next = minute;
        for (int i = 0; i < conferences.size(); i++) {
            Conference other = conferences.get(i);
            if (other != mover && other.slot != NONE && Math.abs(other.slot - minute) < LEAST_APART) {
                next = Math.max(next, other.slot + LEAST_APART);
            }
        }
        return next;
    }

    /** The tugs of all moves but one (or null) that go on in any of these minutes. */
    private int tugsOfOthers(Conference mover, int first, int last) {
        int sum = 0;
        for (int i = 0; i < conferences.size(); i++) {
            Conference other = conferences.get(i);
            if (other != mover && other.slot != NONE
                    && other.slot <= last && other.slot + other.ship.minutes > first) {
                sum += other.ship.tugs;
            }
        }
        return sum;
    }

    // ---- what minutes bring, and what is found for those who ask

    /** Brings a conference to what it is now, and tells whether its move is DONE by that. */
    private boolean becomesDone(Conference moving) {
        if (moving.state == SET && moving.slot <= now) {
            moving.state = ABOARD;
        }
        Pilot guide = moving.pilot;
        if (moving.state != ABOARD || guide == null || moving.slot + moving.ship.minutes > now) {
            return false;
        }
        moving.state = DONE;
        moving.ship.owes += moving.ship.minutes * guide.rate + moving.ship.tugs * TUG_PRICE;
        guide.movesDone++;
        guide.minutesDone += moving.ship.minutes;
        return true;
    }

    private int restedBehindSlots(Pilot asked) {
        int from = now;
        for (int i = 0; i < conferences.size(); i++) {
            Conference one = conferences.get(i);
            if (one.pilot == asked && one.slot != NONE) {
                from = Math.max(from, one.slot + one.ship.minutesWithRest());
            }
        }
        return from;
    }

    private boolean isAboard(Pilot asked) {
        for (int i = 0; i < conferences.size(); i++) {
            Conference one = conferences.get(i);
            if (one.pilot == asked && one.state == ABOARD) {
                return true;
            }
        }
        return false;
    }

    private int howManyAre(int state) {
        int sum = 0;
        for (int i = 0; i < conferences.size(); i++) {
            if (conferences.get(i).state == state) {
                sum++;
            }
        }
        return sum;
    }

    private int allBills() {
        int sum = 0;
        for (int i = 0; i < ships.size(); i++) {
            sum += ships.get(i).owes;
        }
        return sum;
    }

    private static final class Tide {
        private static final int HALF = 360;
        private static final int KEEL_ROOM = 10;

        int depth = 100;
        int rise = 40;

        int aboveDepth(int minute) {
            int behind = minute % (2 * HALF);
            return Math.min(behind, 2 * HALF - behind) * rise / HALF;
        }

        /** As the other past...; looks from the move's end, for the farthest step past low water. */
        int pastShallows(Ship mover, int minute) {
            int needed = mover.draught + KEEL_ROOM;
            for (int at = minute + mover.minutes - 1; at >= minute; at--) {
                if (depth + aboveDepth(at) < needed) {
                    return at + 1;
                }
            }
            return minute;
        }
    }

    private static final class Ship {
        private static final int LEAST_REST = 60;

        final int number;
        final int draught;
        final int tons;
        final int minutes;
        final int tugs;
        int owes;

        Ship(int number, int draught, int tons, int minutes, int tugs) {
            this.number = number;
            this.draught = draught;
            this.tons = tons;
            this.minutes = minutes;
            this.tugs = tugs;
        }

        int minutesWithRest() {
            return minutes + Math.max(LEAST_REST, minutes);
        }
    }

    private static final class Pilot {
        final int number;
        final int licence;
        final int rate;
        int movesDone;
        int minutesDone;

        Pilot(int number, int licence, int rate) {
            this.number = number;
            this.licence = licence;
            this.rate = rate;
        }
    }

    private static final class Conference {
        final Ship ship;
        final int wish;
        boolean shipIn;
        boolean towerIn;
        Pilot pilot;
        int state = CALLING;
        int slot = NONE;

        Conference(Ship ship, int wish) {
            this.ship = ship;
            this.wish = wish;
        }

        boolean hasIn(int who) {
            switch (who) {
                case SHIP: return shipIn;
                case TOWER: return towerIn;
                default: return pilot != null;
            }
        }

        int howManyIn() {
            return (shipIn ? 1 : 0) + (towerIn ? 1 : 0) + (pilot != null ? 1 : 0);
        }

        void letIn(int who, Pilot guide) {
            switch (who) {
                case SHIP: shipIn = true; break;
                case TOWER: towerIn = true; break;
                default: pilot = guide; break;
            }
        }

        void letOut(int who) {
            switch (who) {
                case SHIP: shipIn = false; break;
                case TOWER: towerIn = false; break;
                default: pilot = null; break;
            }
            state = CALLING;
            slot = NONE;
        }
    }
}
