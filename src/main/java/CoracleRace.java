/** A coracle race down a river. */
public final class CoracleRace {
    private static final int MOST_TICKS = 200;
    private static final int MOST_TICKS_OF_ARRIVAL = 400;
    private static final int MOST_TICKS_OF_ADVICE = 60;
    private static final int FIRST_FORESEEN = 3;
    private static final int LAST_COUNT = 6;
    private static final int LAST_FACT = 8;
    private static final int FIRST_NUMBER_OF_DIGEST = 1163;

    private final River river;
    private final Fleet fleet;
    // What would be is played here, so that the race itself stays as it is and no call makes an object.
    private final Fleet trial;

    public CoracleRace() {
        river = new River();
        fleet = new Fleet();
        trial = new Fleet();
    }

    // ---- river and boats

    public int setWater(int lane, int water) throws IndexOutOfBoundsException, IllegalArgumentException {
        if (!River.isLane(lane)) {
            throw new IndexOutOfBoundsException("no such lane");
        }
        if (water < 0 || water > River.MOST_WATER) {
            throw new IllegalArgumentException("water is 0 to 6");
        }
        int before = river.water[lane];
        river.water[lane] = water;
        return before;
    }

    public int weir(int place, int gap) throws IllegalArgumentException, IllegalStateException {
        if (place < 1 || place >= River.LENGTH) {
            throw new IllegalArgumentException("a weir's place is 1 to 199");
        }
        if (!River.isLane(gap)) {
            throw new IllegalArgumentException("a gap is in a lane, 0 to 4");
        }
        if (river.weirs >= River.MOST_WEIRS) {
            throw new IllegalStateException("there are 6 weirs");
        }
        if (river.hasWeirAt(place)) {
            throw new IllegalStateException("there is a weir at this place");
        }
        river.addWeir(place, gap);
        return river.weirs;
    }

    public int launch(int lane, int strength) throws IllegalArgumentException, IllegalStateException {
        if (!River.isLane(lane)) {
            throw new IllegalArgumentException("a lane is 0 to 4");
        }
        if (strength < 1 || strength > Boat.MOST_STRENGTH) {
            throw new IllegalArgumentException("strength is 1 to 8");
        }
        if (fleet.size >= Fleet.MOST_BOATS) {
            throw new IllegalStateException("there are 6 boats");
        }
        return fleet.add(lane, strength);
    }

    public int paddle(int boat, int length, int strokes) throws IndexOutOfBoundsException, IllegalArgumentException {
        if (!fleet.has(boat)) {
            throw new IndexOutOfBoundsException("no such boat");
        }
        if (length < 1 || length > Boat.MOST_STROKES) {
            throw new IllegalArgumentException("a pattern has 1 to 6 strokes");
        }
        if (!isPattern(length, strokes)) {
            throw new IllegalArgumentException("strokes are at most length digits, each 0 to 3");
        }
        int before = fleet.boats[boat].length;
        fleet.boats[boat].takePattern(length, strokes);
        return before;
    }

    public int tar(int boat) throws IndexOutOfBoundsException, IllegalStateException {
        if (!fleet.has(boat)) {
            throw new IndexOutOfBoundsException("no such boat");
        }
        if (fleet.boats[boat].isIn()) {
            throw new IllegalStateException("this boat is in");
        }
        return fleet.boats[boat].dryOut();
    }

    // ---- what is there

    public int boat(int boat, int what) throws IndexOutOfBoundsException {
        if (!fleet.has(boat)) {
            throw new IndexOutOfBoundsException("no such boat");
        }
        if (what < 0 || what > LAST_FACT) {
            throw new IndexOutOfBoundsException("what is 0 to 8");
        }
        return fleet.boats[boat].fact(what);
    }

    public int count(int what) throws IndexOutOfBoundsException {
        if (what < 0 || what > LAST_COUNT) {
            throw new IndexOutOfBoundsException("what is 0 to 6");
        }
        return countIn(fleet, what);
    }

    public int next(int place) throws IllegalArgumentException {
        if (place < 0 || place > River.LENGTH) {
            throw new IllegalArgumentException("a place is 0 to 200");
        }
        return river.firstWeirBeyond(place);
    }

    public int rank(int boat) throws IndexOutOfBoundsException {
        if (!fleet.has(boat)) {
            throw new IndexOutOfBoundsException("no such boat");
        }
        return fleet.rankOf(fleet.boats[boat]);
    }

    // ---- ticks and what would be

    public int go(int ticks) throws IllegalArgumentException {
        if (ticks < 1 || ticks > MOST_TICKS) {
            throw new IllegalArgumentException("ticks are 1 to 200");
        }
        int inBefore = fleet.boatsIn();
        fleet.letTicksGoBy(river, ticks);
        return fleet.boatsIn() - inBefore;
    }

    public int arrives(int boat) throws IndexOutOfBoundsException {
        if (!fleet.has(boat)) {
            throw new IndexOutOfBoundsException("no such boat");
        }
        Boat tried = trial.boats[boat];
        tried.copyFrom(fleet.boats[boat]);
        if (tried.isIn()) {
            return 0;
        }
        for (int behind = 1; behind <= MOST_TICKS_OF_ARRIVAL; behind++) {
            tried.letTickGoBy(river, fleet.tick + behind - 1);
            if (tried.isIn()) {
                return behind;
            }
        }
        return -1;
    }

    public int foresee(int ticks, int what) throws IllegalArgumentException, IndexOutOfBoundsException {
        if (ticks < 1 || ticks > MOST_TICKS) {
            throw new IllegalArgumentException("ticks are 1 to 200");
        }
        if (what < FIRST_FORESEEN || what > LAST_COUNT) {
            throw new IndexOutOfBoundsException("what is 3 to 6");
        }
        trial.copyFrom(fleet);
        trial.letTicksGoBy(river, ticks);
        return countIn(trial, what);
    }

    public int advise(int boat, int ticks) throws IndexOutOfBoundsException, IllegalArgumentException {
        if (!fleet.has(boat)) {
            throw new IndexOutOfBoundsException("no such boat");
        }
        if (ticks < 1 || ticks > MOST_TICKS_OF_ADVICE) {
            throw new IllegalArgumentException("ticks are 1 to 60");
        }
        int best = 0;
        int farthest = -1;
        for (int first = Boat.REST; first <= Boat.BOTH; first++) {
            for (int second = Boat.REST; second <= Boat.BOTH; second++) {
                int pattern = first * 10 + second;
                int reached = placeWith(boat, pattern, ticks);
                // The patterns come from the least on, so the first of several that come as far stays.
                if (reached > farthest) {
                    farthest = reached;
                    best = pattern;
                }
            }
        }
        return best;
    }

    public double mean() {
        if (fleet.size < 1) {
            return 0;
        }
        return (double) fleet.placesAdded() / fleet.size;
    }

    public long digest() {
        long d = FIRST_NUMBER_OF_DIGEST;
        for (int what = 0; what <= LAST_COUNT; what++) {
            d = d * 31 + countIn(fleet, what);
        }
        for (int lane = 0; lane < River.LANES; lane++) {
            d = d * 31 + river.water[lane];
        }
        for (int i = 0; i < river.weirs; i++) {
            d = d * 31 + river.places[i];
            d = d * 31 + river.gaps[i];
        }
        for (int i = 0; i < fleet.size; i++) {
            d = digestWith(d, fleet.boats[i]);
        }
        return d;
    }

    private long digestWith(long before, Boat boat) {
        long d = before;
        for (int what = 0; what <= LAST_FACT; what++) {
            d = d * 31 + boat.fact(what);
        }
        for (int i = 0; i < boat.length; i++) {
            d = d * 31 + boat.strokes[i];
        }
        return d * 31 + fleet.rankOf(boat);
    }

    private int countIn(Fleet counted, int what) {
        switch (what) {
            case 0: return counted.tick;
            case 1: return counted.size;
            case 2: return river.weirs;
            case 3: return counted.boatsIn();
            case 4: return counted.foulsAdded();
            case 5: return counted.leader();
            default: return counted.winner();
        }
    }

    /** Where the boat comes to in so many ticks with a pattern of two strokes. */
    private int placeWith(int boat, int pattern, int ticks) {
        Boat tried = trial.boats[boat];
        tried.copyFrom(fleet.boats[boat]);
        tried.takePattern(2, pattern);
        for (int i = 0; i < ticks; i++) {
            tried.letTickGoBy(river, fleet.tick + i);
        }
        return tried.place;
    }

    private static boolean isPattern(int length, int strokes) {
        if (strokes < 0) {
            return false;
        }
        int rest = strokes;
        for (int i = 0; i < length; i++) {
            if (rest % 10 > Boat.BOTH) {
                return false;
            }
            rest = rest / 10;
        }
        return rest == 0;
    }

    /** The lanes with their water, and the weirs by their coming. */
    private static final class River {
        static final int LENGTH = 200;
        static final int LANES = 5;
        static final int MOST_WATER = 6;
        static final int MOST_WEIRS = 6;
        static final int NONE = -1;

        final int[] water = {1, 2, 3, 2, 1};
        final int[] places = new int[MOST_WEIRS];
        final int[] gaps = new int[MOST_WEIRS];
        int weirs = 0;

        static boolean isLane(int lane) {
            return lane >= 0 && lane < LANES;
        }

        boolean hasWeirAt(int place) {
            for (int i = 0; i < weirs; i++) {
                if (places[i] == place) {
                    return true;
                }
            }
            return false;
        }

        void addWeir(int place, int gap) {
            if (weirs < MOST_WEIRS) {
                places[weirs] = place;
                gaps[weirs] = gap;
                weirs++;
            }
        }

        int firstWeirBeyond(int place) {
            int first = NONE;
            for (int i = 0; i < weirs; i++) {
                if (places[i] > place && (first == NONE || places[i] < first)) {
                    first = places[i];
                }
            }
            return first;
        }

        /** The place of the first weir that stops a boat going from one place to another in this lane. */
        int firstStop(int from, int to, int lane) {
            int first = NONE;
            for (int i = 0; i < weirs; i++) {
                boolean onTheWay = places[i] > from && places[i] <= to;
                if (onTheWay && gaps[i] != lane && (first == NONE || places[i] < first)) {
                    first = places[i];
                }
            }
            return first;
        }
    }

    /** The boats by their coming, at a tick. */
    private static final class Fleet {
        static final int MOST_BOATS = 6;
        static final int NOBODY = -1;

        final Boat[] boats = new Boat[MOST_BOATS];
        int size = 0;
        int tick = 0;

        Fleet() {
            for (int i = 0; i < MOST_BOATS; i++) {
                boats[i] = new Boat();
            }
        }

        boolean has(int number) {
            return number >= 0 && number < size;
        }

        int add(int lane, int strength) {
            if (size >= MOST_BOATS) {
                return NOBODY;
            }
            boats[size].start(lane, strength);
            size++;
            return size - 1;
        }

        void copyFrom(Fleet other) {
            size = other.size;
            tick = other.tick;
            for (int i = 0; i < size; i++) {
                boats[i].copyFrom(other.boats[i]);
            }
        }

        void letTicksGoBy(River river, int ticks) {
            for (int i = 0; i < ticks; i++) {
                for (int k = 0; k < size; k++) {
                    boats[k].letTickGoBy(river, tick);
                }
                tick++;
            }
        }

        int boatsIn() {
            int in = 0;
            for (int i = 0; i < size; i++) {
                if (boats[i].isIn()) {
                    in++;
                }
            }
            return in;
        }

        int foulsAdded() {
            int sum = 0;
            for (int i = 0; i < size; i++) {
                sum += boats[i].fouls;
            }
            return sum;
        }

        int placesAdded() {
            int sum = 0;
            for (int i = 0; i < size; i++) {
                sum += boats[i].place;
            }
            return sum;
        }

        int leader() {
            int best = NOBODY;
            int farthest = -1;
            for (int i = 0; i < size; i++) {
                if (!boats[i].isIn() && boats[i].place > farthest) {
                    best = i;
                    farthest = boats[i].place;
                }
            }
            return best;
        }

        int winner() {
            int best = NOBODY;
            int least = 0;
            for (int i = 0; i < size; i++) {
                if (boats[i].isIn() && (best == NOBODY || boats[i].time() < least)) {
                    best = i;
                    least = boats[i].time();
                }
            }
            return best;
        }

        int rankOf(Boat ranked) {
            int ahead = 0;
            for (int i = 0; i < size; i++) {
                if (boats[i].isAheadOf(ranked)) {
                    ahead++;
                }
            }
            return 1 + ahead;
        }
    }

    /** One coracle: where it is, how it heads, and how it is paddled. */
    private static final class Boat {
        static final int REST = 0;
        static final int LEFT = 1;
        static final int RIGHT = 2;
        static final int BOTH = 3;
        static final int MOST_STROKES = 6;
        static final int MOST_STRENGTH = 8;
        static final int MOST_HEADING = 4;
        static final int MOST_SOAKED = 30;
        static final int DRIFT_HEADING = 2;
        static final int FOULS_OF_BANK = 3;
        static final int FOULS_OF_TAR = 4;
        static final int SOAKED_BY_WEIR = 5;
        static final int TICKS_OF_SOAKING = 4;
        static final int NOT_IN = -1;

        final int[] strokes = new int[MOST_STROKES];
        int length = 1;
        int strength = 1;
        int place = 0;
        int lane = 0;
        int heading = 0;
        int soaked = 0;
        int fouls = 0;
        boolean in = false;
        int tickIn = 0;
        int spins = 0;
        int stops = 0;

        void start(int startLane, int itsStrength) {
            lane = startLane;
            strength = itsStrength;
            takePattern(1, BOTH);
        }

        void copyFrom(Boat other) {
            System.arraycopy(other.strokes, 0, strokes, 0, MOST_STROKES);
            length = other.length;
            strength = other.strength;
            place = other.place;
            lane = other.lane;
            heading = other.heading;
            soaked = other.soaked;
            fouls = other.fouls;
            in = other.in;
            tickIn = other.tickIn;
            spins = other.spins;
            stops = other.stops;
        }

        boolean isIn() {
            return in;
        }

        int time() {
            return in ? tickIn + 1 + fouls : NOT_IN;
        }

        int fact(int what) {
            switch (what) {
                case 0: return place;
                case 1: return lane;
                case 2: return heading;
                case 3: return soaked;
                case 4: return fouls;
                case 5: return in ? 1 : 0;
                case 6: return time();
                case 7: return spins;
                default: return stops;
            }
        }

        boolean isAheadOf(Boat other) {
            if (in) {
                return !other.in || time() < other.time();
            }
            return !other.in && place > other.place;
        }

        void takePattern(int newLength, int digits) {
            if (newLength < 1 || newLength > MOST_STROKES) {
                return;
            }
            int rest = digits;
            for (int i = newLength - 1; i >= 0; i--) {
                strokes[i] = rest % 10;
                rest = rest / 10;
            }
            length = newLength;
        }

        int dryOut() {
            int before = soaked;
            soaked = 0;
            fouls += FOULS_OF_TAR;
            return before;
        }

        void letTickGoBy(River river, int tick) {
            if (in) {
                return;
            }
            int force = forceOf(strokeIn(tick));
            drift();
            advance(river, force);
            if (tick % TICKS_OF_SOAKING == 0) {
                soak(1);
            }
            if (place == River.LENGTH) {
                in = true;
                tickIn = tick;
            }
        }

        private int strokeIn(int tick) {
            if (length < 1 || length > MOST_STROKES) {
                return REST;
            }
            // floorMod keeps the index in the row even if the tick should ever have wrapped around.
            return strokes[Math.floorMod(tick, length)];
        }

        /** Turns the boat by its stroke; answers the force that it has then. */
        private int forceOf(int stroke) {
            if (stroke == LEFT) {
                heading++;
            } else if (stroke == RIGHT) {
                heading--;
            }
            if (heading > MOST_HEADING || heading < -MOST_HEADING) {
                heading = 0;
                spins++;
                return 0;
            }
            return Math.max(0, pushOf(stroke) - soaked / 6);
        }

        private int pushOf(int stroke) {
            if (stroke == BOTH) {
                return strength;
            }
            return stroke == REST ? 0 : strength / 2;
        }

        private void drift() {
            int wanted = lane;
            if (heading >= DRIFT_HEADING) {
                wanted = lane + 1;
            } else if (heading <= -DRIFT_HEADING) {
                wanted = lane - 1;
            }
            if (River.isLane(wanted)) {
                lane = wanted;
            } else {
                fouls += FOULS_OF_BANK;
            }
        }

        private void advance(River river, int force) {
            if (!River.isLane(lane)) {
                return;
            }
            int way = force * (MOST_HEADING - Math.abs(heading)) / MOST_HEADING + river.water[lane];
            int stop = river.firstStop(place, place + way, lane);
            if (stop == River.NONE) {
                place = Math.min(place + way, River.LENGTH);
                return;
            }
            place = stop;
            heading = 0;
            soak(SOAKED_BY_WEIR);
            stops++;
        }

        private void soak(int more) {
            soaked = Math.min(soaked + more, MOST_SOAKED);
        }
    }
}
