/** Races to begin with, made the same way each time. */
final class Races {
    static final int LANES = 5;
    static final int MOST_BOATS = 6;
    static final int MOST_WEIRS = 6;
    static final int MOST_SOAKED = 30;

    /** The mixed race: of each boat its lane, its strength, how many strokes it has, and these. */
    private static final int[][] MIXED_BOATS = {
        {2, 8, 3, 133}, {0, 5, 1, 1}, {4, 3, 6, 113320}, {1, 7, 4, 2313}, {3, 6, 5, 10233}, {2, 1, 1, 0},
    };
    private static final int[][] MIXED_WEIRS = {{150, 4}, {20, 1}, {21, 3}, {90, 2}, {60, 0}, {199, 2}};

    private Races() {
    }

    static CoracleRace empty() {
        return new CoracleRace();
    }

    static CoracleRace withBoat(int lane, int strength, int length, int strokes) {
        CoracleRace race = new CoracleRace();
        race.launch(lane, strength);
        race.paddle(0, length, strokes);
        return race;
    }

    /** All water by 0, so that a boat goes by its force alone. */
    static CoracleRace still() {
        CoracleRace race = new CoracleRace();
        for (int lane = 0; lane < LANES; lane++) {
            race.setWater(lane, 0);
        }
        return race;
    }

    static CoracleRace stillWithBoat(int lane, int strength, int length, int strokes) {
        CoracleRace race = still();
        race.launch(lane, strength);
        race.paddle(0, length, strokes);
        return race;
    }

    static CoracleRace withBoats(int boats) {
        CoracleRace race = new CoracleRace();
        for (int i = 0; i < boats; i++) {
            race.launch(i % LANES, 3 + i);
        }
        return race;
    }

    /** Weirs at 10, 20 and on, each with its gap in the lane after the last one's. */
    static CoracleRace withWeirs(int weirs) {
        CoracleRace race = withBoats(2);
        for (int i = 0; i < weirs; i++) {
            race.weir(10 * (i + 1), i % LANES);
        }
        return race;
    }

    /** The boat 0 is in, by 25 strokes and one more; the boat 1 is on its way and rests at 0. */
    static CoracleRace withOneIn() {
        CoracleRace race = stillWithBoat(2, 8, 1, 3);
        race.launch(1, 5);
        race.paddle(1, 1, 0);
        race.go(26);
        return race;
    }

    /** Strength 5 with all water by 6 brings each boat in by the tick 20. */
    static CoracleRace withAllIn() {
        CoracleRace race = new CoracleRace();
        for (int i = 0; i < MOST_BOATS; i++) {
            race.launch(i % LANES, 5);
        }
        for (int lane = 0; lane < LANES; lane++) {
            race.setWater(lane, 6);
        }
        race.go(30);
        return race;
    }

    /**
     * A boat at rest at 0 in still water, in the lane 2, that is soaked by just so much (1 to 30). The tick is then
     * 1 beyond one that can be divided by 4, so three ticks follow in which it is soaked by weirs alone.
     */
    static CoracleRace soaked(int strength, int soaked) {
        CoracleRace race = stillWithBoat(2, strength, 1, 0);
        race.go(4 * (soaked - 1) + 1);
        return race;
    }

    /** A boat that has turned by so much in still water; right for a heading below 0. */
    static CoracleRace heading(int lane, int strength, int heading) {
        CoracleRace race = stillWithBoat(lane, strength, 1, heading < 0 ? 2 : 1);
        for (int turned = 0; turned < Math.abs(heading); turned++) {
            race.go(1);
        }
        race.paddle(0, 1, 0);
        return race;
    }

    /** A boat in still water at just this place, heading straight down the lane 2, its force still whole. */
    static CoracleRace at(int place, int strength) {
        CoracleRace race = stillWithBoat(2, strength, 1, 0);
        int left = place;
        while (left > 0) {
            race.setWater(2, Math.min(left, 6));
            race.go(1);
            left -= Math.min(left, 6);
        }
        race.setWater(2, 0);
        if (race.boat(0, 3) > 0) {
            race.tar(0);
        }
        return race;
    }

    /** The river of the mixed race, without its boats. */
    static CoracleRace mixedRiver() {
        CoracleRace race = new CoracleRace();
        for (int[] weir : MIXED_WEIRS) {
            race.weir(weir[0], weir[1]);
        }
        race.setWater(0, 0);
        race.setWater(2, 0);
        return race;
    }

    static int launchMixed(CoracleRace race, int boat) {
        int[] row = MIXED_BOATS[boat];
        int number = race.launch(row[0], row[1]);
        race.paddle(number, row[2], row[3]);
        return number;
    }

    /** Six boats and six weirs: there are turns, spins, banks, stops, some that come in, and one that never does. */
    static CoracleRace mixed() {
        CoracleRace race = mixedRiver();
        for (int boat = 0; boat < MIXED_BOATS.length; boat++) {
            launchMixed(race, boat);
        }
        return race;
    }
}
