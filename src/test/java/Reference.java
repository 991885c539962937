/**
 * The document once more, minute by minute and as slow as its words: what a conference is, bills and
 * all that is asked are found anew from slots each time.
 */
final class Reference {
    int now;
    int depth = 100;
    int rise = 40;
    int tugs = 2;
    int told;
    int ships;
    int pilots;
    int conferences;
    final int[] draught = new int[12];
    final int[] tons = new int[12];
    final int[] length = new int[12];
    final int[] needs = new int[12];
    final int[] licence = new int[8];
    final int[] rate = new int[8];
    final int[] ofShip = new int[40];
    final int[] wish = new int[40];
    final boolean[][] in = new boolean[40][3];
    final int[] guide = new int[40];
    final int[] slot = new int[40];

    void tide(int newDepth, int newRise) {
        argument(newDepth >= 10 && newDepth <= 300 && newRise >= 0 && newRise <= 200);
        depth = newDepth;
        rise = newRise;
    }

    int tugs(int number) {
        argument(number >= 0 && number <= 6);
        int before = tugs;
        tugs = number;
        return before;
    }

    int ship(int newDraught, int newTons, int minutes, int newTugs) {
        argument(newDraught >= 1 && newDraught <= 400 && newTons >= 1 && newTons <= 9999);
        argument(minutes >= 10 && minutes <= 120 && newTugs >= 0 && newTugs <= 3);
        state(ships < 12);
        draught[ships] = newDraught;
        tons[ships] = newTons;
        length[ships] = minutes;
        needs[ships] = newTugs;
        return ships++;
    }

    int pilot(int newLicence, int newRate) {
        argument(newLicence >= 1 && newLicence <= 9999 && newRate >= 1 && newRate <= 50);
        state(pilots < 8);
        licence[pilots] = newLicence;
        rate[pilots] = newRate;
        return pilots++;
    }

    int call(int ship, int newWish) {
        index(ship >= 0 && ship < ships);
        argument(newWish >= now && newWish <= 20000);
        state(conferences < 40);
        ofShip[conferences] = ship;
        wish[conferences] = newWish;
        guide[conferences] = -1;
        slot[conferences] = -1;
        return conferences++;
    }

    int join(int conference, int who, int pilot) {
        index(conference >= 0 && conference < conferences && who >= 0 && who <= 2);
        index(who != 2 || pilot >= 0 && pilot < pilots);
        state(!in[conference][who]);
        state(who != 2 || licence[pilot] >= tons[ofShip[conference]]);
        in[conference][who] = true;
        if (who == 2) {
            guide[conference] = pilot;
        }
        if (howManyIn(conference) == 3) {
            slot[conference] = earliest(conference);
        }
        return slot[conference];
    }

    int again(int conference) {
        index(conference >= 0 && conference < conferences);
        state(whatIs(conference) == 1);
        slot[conference] = earliest(conference);
        return slot[conference];
    }

    int drop(int conference, int who) {
        index(conference >= 0 && conference < conferences && who >= 0 && who <= 2);
        state(in[conference][who] && whatIs(conference) < 3);
        boolean had = slot[conference] != -1;
        slot[conference] = -1;
        in[conference][who] = false;
        if (who == 2) {
            guide[conference] = -1;
        }
        int moved = 0;
        for (int c = 0; had && c < conferences; c++) {
            if (whatIs(c) == 1 || whatIs(c) == 2) {
                int before = slot[c];
                slot[c] = -1;
                slot[c] = earliest(c);
                moved += slot[c] == before ? 0 : 1;
            }
        }
        told += moved;
        return moved;
    }

    int pass(int minutes) {
        argument(minutes >= 1 && minutes <= 2000);
        state(now + minutes <= 20000);
        int before = howMany(4);
        now += minutes;
        return howMany(4) - before;
    }

    int minute() {
        return now;
    }

    int level(int minute) {
        argument(minute >= 0 && minute <= 30000);
        return above(minute);
    }

    int window(int ship, int from) {
        index(ship >= 0 && ship < ships);
        argument(from >= 0 && from <= 20000);
        for (int minute = from; minute <= from + 1440; minute++) {
            if (tideDoes(ship, minute)) {
                return minute;
            }
        }
        return -1;
    }

    int ofConference(int conference, int what) {
        index(conference >= 0 && conference < conferences && what >= 0 && what <= 4);
        int[] all = {whatIs(conference), slot[conference], guide[conference], howManyIn(conference),
            ofShip[conference]};
        return all[what];
    }

    int why(int conference, int minute) {
        index(conference >= 0 && conference < conferences);
        argument(minute >= now && minute <= 21440);
        state(guide[conference] != -1);
        if (!tideDoes(ofShip[conference], minute)) {
            return 1;
        }
        if (!pilotDoes(conference, minute)) {
            return 2;
        }
        if (!tugsDo(conference, minute)) {
            return 3;
        }
        return channelDoes(conference, minute) ? 0 : 4;
    }

    int rested(int pilot) {
        index(pilot >= 0 && pilot < pilots);
        int from = now;
        for (int c = 0; c < conferences; c++) {
            if (guide[c] == pilot && slot[c] != -1) {
                from = Math.max(from, over(c) + rest(c));
            }
        }
        return from;
    }

    int bill(int ship) {
        index(ship >= 0 && ship < ships);
        int owes = 0;
        for (int c = 0; c < conferences; c++) {
            if (ofShip[c] == ship && whatIs(c) == 4) {
                owes += length[ship] * rate[guide[c]] + 100 * needs[ship];
            }
        }
        return owes;
    }

    int ofPilot(int pilot, int what) {
        index(pilot >= 0 && pilot < pilots && what >= 0 && what <= 3);
        int[] all = new int[4];
        for (int c = 0; c < conferences; c++) {
            if (guide[c] == pilot && whatIs(c) == 4) {
                all[0]++;
                all[1] += length[ofShip[c]];
                all[3] += length[ofShip[c]] * rate[pilot];
            }
            if (guide[c] == pilot && whatIs(c) == 3) {
                all[2] = 1;
            }
        }
        return all[what];
    }

    int count(int what) {
        argument(what >= 0 && what <= 7);
        if (what <= 4) {
            return howMany(what);
        }
        if (what == 7) {
            return told;
        }
        int sum = 0;
        for (int c = 0; what == 5 && c < conferences; c++) {
            sum += whatIs(c) == 3 ? needs[ofShip[c]] : 0;
        }
        for (int ship = 0; what == 6 && ship < ships; ship++) {
            sum += bill(ship);
        }
        return sum;
    }

    private int above(int minute) {
        int behind = 0;
        while (behind + 720 <= minute) {
            behind += 720;
        }
        return Math.min(minute - behind, behind + 720 - minute) * rise / 360;
    }

    private int howManyIn(int conference) {
        int sum = 0;
        for (boolean one : in[conference]) {
            sum += one ? 1 : 0;
        }
        return sum;
    }

    private int whatIs(int conference) {
        if (howManyIn(conference) < 3) {
            return 0;
        }
        if (slot[conference] == -1) {
            return 1;
        }
        if (now < slot[conference]) {
            return 2;
        }
        return now < over(conference) ? 3 : 4;
    }

    private int howMany(int state) {
        int sum = 0;
        for (int c = 0; c < conferences; c++) {
            sum += whatIs(c) == state ? 1 : 0;
        }
        return sum;
    }

    private int over(int conference) {
        return slot[conference] + length[ofShip[conference]];
    }

    private int rest(int conference) {
        return Math.max(60, length[ofShip[conference]]);
    }

    private int earliest(int conference) {
        int later = Math.max(wish[conference], now);
        for (int minute = later; minute <= later + 1440; minute++) {
            if (channelDoes(conference, minute) && pilotDoes(conference, minute)
                    && tideDoes(ofShip[conference], minute) && tugsDo(conference, minute)) {
                return minute;
            }
        }
        return -1;
    }

    private boolean tideDoes(int ship, int begin) {
        for (int minute = begin; minute < begin + length[ship]; minute++) {
            if (depth + above(minute) < draught[ship] + 10) {
                return false;
            }
        }
        return true;
    }

    private boolean pilotDoes(int conference, int begin) {
        int mine = length[ofShip[conference]];
        for (int c = 0; c < conferences; c++) {
            if (c != conference && slot[c] != -1 && guide[c] == guide[conference]) {
                boolean behind = begin - over(c) >= rest(c);
                boolean ahead = slot[c] - (begin + mine) >= Math.max(60, mine);
                if (!behind && !ahead) {
                    return false;
                }
            }
        }
        return true;
    }

    private boolean tugsDo(int conference, int begin) {
        for (int minute = begin; minute < begin + length[ofShip[conference]]; minute++) {
            int sum = needs[ofShip[conference]];
            for (int c = 0; c < conferences; c++) {
                boolean goesOn = c != conference && slot[c] != -1 && slot[c] <= minute && minute < over(c);
                sum += goesOn ? needs[ofShip[c]] : 0;
            }
            if (sum > tugs) {
                return false;
            }
        }
        return true;
    }

    private boolean channelDoes(int conference, int begin) {
        for (int c = 0; c < conferences; c++) {
            boolean counts = c != conference && slot[c] != -1;
            if (counts && !(slot[c] <= begin - 15 || slot[c] >= begin + 15)) {
                return false;
            }
        }
        return true;
    }

    private static void index(boolean holds) {
        if (!holds) {
            throw new IndexOutOfBoundsException("reference");
        }
    }

    private static void argument(boolean holds) {
        if (!holds) {
            throw new IllegalArgumentException("reference");
        }
    }

    private static void state(boolean holds) {
        if (!holds) {
            throw new IllegalStateException("reference");
        }
    }
}
