/** Promises 12 to 16: arrives, foresee, advise, mean, digest. */
public final class WhatWouldBeTest {
    private static final Check CHECK = new Check();

    public static void main(String[] args) {
        arrivesAnswers();
        foreseeAnswers();
        foreseeFouls();
        foreseeFromALaterTick();
        foreseeThoseThatAreIn();
        fullRiver();
        adviseByTheTick();
        adviseTheFarthest();
        adviseOfSeveral();
        triesLeaveNothing();
        meanAnswers();
        digestAnswers();
        CHECK.end();
    }

    /** As TickTest.comesIn has it: in in the tick 25, which is behind 26 ticks. */
    private static void arrivesAnswers() {
        CoracleRace race = Races.stillWithBoat(2, 8, 1, 3);
        long before = race.digest();
        CHECK.due("arrives(0)", race.arrives(0), 26);
        CHECK.due("nothing is changed", race.digest(), before);
        race.go(25);
        CHECK.due("arrives(0), one ahead", race.arrives(0), 1);
        race.go(1);
        CHECK.due("arrives(0), in", race.arrives(0), 0);
        race.launch(2, 8);
        CHECK.due("arrives(1), from the tick 26", race.arrives(1), 26);
        race.paddle(1, 1, 0);
        CHECK.due("arrives(1) at rest", race.arrives(1), -1);
        race.setWater(2, 1);
        CHECK.due("arrives(1) by water", race.arrives(1), 200);
    }

    private static CoracleRace threeBoats() {
        CoracleRace race = new CoracleRace();
        race.launch(2, 7);
        race.launch(2, 8);
        race.launch(0, 1);
        race.tar(1);
        race.tar(1);
        return race;
    }

    private static void foreseeAnswers() {
        int[] ticks = {1, 18, 19, 20, 21, 22, 100, 200};
        for (int t : ticks) {
            CoracleRace asked = threeBoats();
            CoracleRace gone = threeBoats();
            gone.go(t);
            long before = asked.digest();
            for (int what = 3; what <= 6; what++) {
                CHECK.due("foresee(" + t + ", " + what + ")", asked.foresee(t, what), gone.count(what));
            }
            CHECK.due("nothing is changed", asked.digest(), before);
        }
        CoracleRace race = threeBoats();
        CHECK.due("in behind 18", race.foresee(18, 3), 0);
        CHECK.due("in behind 19", race.foresee(19, 3), 1);
        CHECK.due("in behind 20", race.foresee(20, 3), 2);
        CHECK.due("leads behind 1", race.foresee(1, 5), 1);
        CHECK.due("leads behind 19", race.foresee(19, 5), 0);
        CHECK.due("leads behind 20", race.foresee(20, 5), 2);
        CHECK.due("wins behind 18", race.foresee(18, 6), -1);
        CHECK.due("wins behind 19", race.foresee(19, 6), 1);
        CHECK.due("wins behind 20", race.foresee(20, 6), 0);
        CHECK.due("leads behind 200", race.foresee(200, 5), -1);
        race.go(19);
        CHECK.due("in, and what would come in", race.foresee(2, 3), 2);
        CoracleRace empty = new CoracleRace();
        int[] none = {0, 0, -1, -1};
        for (int what = 3; what <= 6; what++) {
            CHECK.due("no boats: foresee(200, " + what + ")", empty.foresee(200, what), none[what - 3]);
        }
    }

    private static void foreseeFouls() {
        CoracleRace race = Races.stillWithBoat(4, 1, 1, 3);
        race.paddle(0, 1, 1);
        race.tar(0);
        CHECK.due("fouls behind 1", race.foresee(1, 4), 4);
        CHECK.due("fouls behind 4", race.foresee(4, 4), 13);
        CHECK.due("fouls behind 5", race.foresee(5, 4), 13);
        CHECK.due("fouls now", race.count(4), 4);
    }

    /** In the tick 33 the second stroke of two counts; were it the tick 0, the first one would. */
    private static void foreseeFromALaterTick() {
        CoracleRace race = Races.stillWithBoat(2, 8, 1, 3);
        race.paddle(0, 1, 0);
        race.setWater(2, 6);
        race.go(33);
        race.setWater(2, 0);
        CHECK.due("at", race.boat(0, 0), 198);
        race.paddle(0, 2, 3);
        CHECK.due("in by the stroke of the tick 33", race.foresee(1, 3), 1);
        race.paddle(0, 2, 30);
        CHECK.due("no stroke in the tick 33", race.foresee(1, 3), 0);
        CHECK.due("a stroke in the tick 34", race.foresee(2, 3), 1);
    }

    /** Their times are kept: by fouls alone, or by ticks alone, the other boat would win. */
    private static void foreseeThoseThatAreIn() {
        CoracleRace few = new CoracleRace();
        few.launch(2, 4);
        few.launch(2, 8);
        few.tar(1);
        few.go(60);
        CHECK.due("both are in", few.count(3), 2);
        CHECK.due("the winner by an early tick stays", few.foresee(200, 6), 1);
        CoracleRace many = new CoracleRace();
        many.launch(2, 8);
        many.launch(2, 4);
        for (int i = 0; i < 10; i++) {
            many.tar(0);
        }
        many.go(60);
        CHECK.due("both are in", many.count(3), 2);
        CHECK.due("the winner by few fouls stays", many.foresee(200, 6), 1);
    }

    private static void fullRiver() {
        CoracleRace race = new CoracleRace();
        for (int i = 0; i < 6; i++) {
            race.launch(i % 5, 3 + i);
            race.weir(190 - 30 * i, i % 5);
        }
        CHECK.due("the first of six weirs", race.next(0), 40);
        CHECK.due("the last of six weirs", race.next(189), 190);
        race.go(1);
        CHECK.dueDouble("mean() of 4, 6, 8, 8, 8 and 9", race.mean(), 43 / 6.0);
        CHECK.due("leads behind 2", race.foresee(2, 5), 5);
        CHECK.due("in behind 200", race.foresee(200, 3), 6);
        race.go(200);
        CHECK.due("in", race.count(3), 6);
    }

    /** In an even tick the first stroke of two counts, in an odd one the second. */
    private static void adviseByTheTick() {
        CoracleRace race = new CoracleRace();
        race.launch(2, 4);
        CHECK.due("one tick, from 0", race.advise(0, 1), 30);
        CHECK.due("two ticks, from 0", race.advise(0, 2), 33);
        race.go(1);
        CHECK.due("one tick, from 1", race.advise(0, 1), 3);
        CHECK.due("two ticks, from 1", race.advise(0, 2), 33);
    }

    /** The only way past the weirs that is not soaking leads through the lane 1. */
    private static void adviseTheFarthest() {
        CoracleRace race = new CoracleRace();
        race.launch(2, 8);
        race.weir(3, 2);
        race.weir(30, 1);
        race.weir(60, 3);
        race.weir(31, 0);
        race.weir(90, 4);
        for (int ticks = 1; ticks <= 60; ticks++) {
            dueAdvice(race, ticks);
        }
        race.go(5);
        for (int ticks = 1; ticks <= 60; ticks++) {
            dueAdvice(race, ticks);
        }
    }

    /** Compares with races in which the boat is really told each pattern; these are made anew by the same calls. */
    private static void dueAdvice(CoracleRace race, int ticks) {
        int best = -1;
        int farthest = -1;
        for (int pattern = 0; pattern <= 33; pattern++) {
            if (pattern % 10 > 3) {
                continue;
            }
            CoracleRace tried = new CoracleRace();
            tried.launch(2, 8);
            tried.weir(3, 2);
            tried.weir(30, 1);
            tried.weir(60, 3);
            tried.weir(31, 0);
            tried.weir(90, 4);
            if (race.count(0) > 0) {
                tried.go(race.count(0));
            }
            tried.paddle(0, 2, pattern);
            tried.go(ticks);
            if (tried.boat(0, 0) > farthest) {
                farthest = tried.boat(0, 0);
                best = pattern;
            }
        }
        CHECK.due("advise(0, " + ticks + ") at " + race.count(0), race.advise(0, ticks), best);
    }

    private static void adviseOfSeveral() {
        CoracleRace race = new CoracleRace();
        race.launch(2, 8);
        race.setWater(2, 4);
        CHECK.due("water is enough", race.advise(0, 60), 0);
        race.setWater(2, 0);
        race.setWater(1, 0);
        race.setWater(3, 0);
        CHECK.due("a stroke in two ticks is enough", race.advise(0, 60), 3);
        race.setWater(2, 3);
        race.go(30);
        CHECK.due("in", race.boat(0, 5), 1);
        CHECK.due("advise for a boat that is in", race.advise(0, 1), 0);
    }

    /** What would be is asked between all ticks of one race and not of another; both go the same way. */
    private static void triesLeaveNothing() {
        CoracleRace asked = threeBoats();
        CoracleRace quiet = threeBoats();
        asked.weir(100, 0);
        quiet.weir(100, 0);
        for (int i = 0; i < 30; i++) {
            asked.advise(i % 3, 1 + i % 60);
            asked.foresee(1 + i * 6, 3 + i % 4);
            asked.arrives(i % 3);
            CHECK.due("the same race, tick " + i, asked.digest(), quiet.digest());
            asked.go(1);
            quiet.go(1);
        }
        CHECK.due("no pattern of advice is left", asked.paddle(0, 1, 3), 1);
    }

    private static void meanAnswers() {
        CoracleRace race = new CoracleRace();
        CHECK.dueDouble("mean() without boats", race.mean(), 0);
        race.launch(0, 4);
        CHECK.dueDouble("mean() at 0", race.mean(), 0);
        CoracleRace single = new CoracleRace();
        single.launch(0, 4);
        single.go(1);
        CHECK.dueDouble("mean() of one", single.mean(), 5);
        race.launch(0, 3);
        race.go(1);
        CHECK.dueDouble("mean() of 5 and 4", race.mean(), 4.5);
        race.launch(0, 8);
        CHECK.dueDouble("mean() of 5, 4 and 0", race.mean(), 3);
        race.go(1);
        CHECK.dueDouble("mean() of 10, 8 and 9", race.mean(), 9);
        race.paddle(0, 1, 0);
        race.go(1);
        CHECK.dueDouble("mean() of 11, 12 and 18", race.mean(), 41 / 3.0);
        race.go(200);
        race.go(200);
        CHECK.dueDouble("mean() of those that are in", race.mean(), 200);
    }

    private static long digestOf(long... numbers) {
        long d = 1163;
        for (long x : numbers) {
            d = d * 31 + x;
        }
        return d;
    }

    private static void digestAnswers() {
        CoracleRace race = new CoracleRace();
        CHECK.due("digest(), new", race.digest(), digestOf(0, 0, 0, 0, 0, -1, -1, 1, 2, 3, 2, 1));
        race.setWater(4, 6);
        race.weir(150, 4);
        race.weir(20, 1);
        CHECK.due("digest(), river", race.digest(),
            digestOf(0, 0, 2, 0, 0, -1, -1, 1, 2, 3, 2, 6, 150, 4, 20, 1));
        race.launch(2, 8);
        race.launch(0, 2);
        race.paddle(0, 3, 13);
        race.tar(1);
        CHECK.due("digest(), boats", race.digest(),
            digestOf(0, 2, 2, 0, 4, 0, -1, 1, 2, 3, 2, 6, 150, 4, 20, 1,
                0, 2, 0, 0, 0, 0, -1, 0, 0, 0, 1, 3, 1,
                0, 0, 0, 0, 4, 0, -1, 0, 0, 3, 1));
        race.go(2);
        CHECK.due("digest(), gone", race.digest(),
            digestOf(2, 2, 2, 0, 4, 0, -1, 1, 2, 3, 2, 6, 150, 4, 20, 1,
                9, 2, 1, 1, 0, 0, -1, 0, 0, 0, 1, 3, 1,
                6, 0, 0, 1, 4, 0, -1, 0, 0, 3, 2));
        CHECK.due("digest() changes nothing", race.digest(), race.digest());
    }
}
