/** The document's Terms, and promise 11 (go): how a tick goes, step by step. */
public final class TickTest {
    private static final Check CHECK = new Check();

    public static void main(String[] args) {
        strokes();
        forceIsCut();
        leftSpins();
        rightSpins();
        driftGoesOnWithoutTurning();
        greaterBankFouls();
        lesserBankFouls();
        weirStops();
        weirLetsThrough();
        firstWeirThatStops();
        weirTurnsStraight();
        weirLooksAtTheLaneAfterDrift();
        soakingByTicks();
        soakingSlows();
        soakingIsHeldByWeirs();
        spinIsCarriedByWater();
        comesIn();
        stopsJustAhead();
        inIsIn();
        goAnswers();
        CHECK.end();
    }

    private static void strokes() {
        int[] place = {3, 6, 6, 11};
        int[] heading = {0, 1, -1, 0};
        for (int stroke = 0; stroke <= 3; stroke++) {
            CoracleRace race = Races.withBoat(2, 8, 1, stroke);
            CHECK.due("a tick of stroke " + stroke, race.go(1), 0);
            CHECK.dueBoat("stroke " + stroke, race, 0, place[stroke], 2, heading[stroke], 1, 0, 0, -1, 0, 0);
        }
    }

    /** A half of 7 is 3; heading by 1, 3 * 3 / 4 is 2; heading by 2, 3 * 2 / 4 is 1. */
    private static void forceIsCut() {
        CoracleRace race = Races.stillWithBoat(2, 7, 1, 1);
        race.go(1);
        CHECK.due("half, heading by 1", race.boat(0, 0), 2);
        race.go(1);
        CHECK.due("half, heading by 2", race.boat(0, 0), 3);
        race.go(1);
        CHECK.due("half, heading by 3", race.boat(0, 0), 3);
        race.paddle(0, 1, 3);
        race.go(1);
        CHECK.due("both, heading by 3", race.boat(0, 0), 4);
        CoracleRace weak = Races.stillWithBoat(2, 1, 1, 2);
        weak.go(1);
        CHECK.due("a half of 1", weak.boat(0, 0), 0);
    }

    private static void leftSpins() {
        CoracleRace race = Races.withBoat(0, 8, 1, 1);
        race.go(1);
        CHECK.dueBoat("left 1", race, 0, 4, 0, 1, 1, 0, 0, -1, 0, 0);
        race.go(1);
        CHECK.dueBoat("left 2", race, 0, 8, 1, 2, 1, 0, 0, -1, 0, 0);
        race.go(1);
        CHECK.dueBoat("left 3", race, 0, 12, 2, 3, 1, 0, 0, -1, 0, 0);
        race.go(1);
        CHECK.dueBoat("left 4", race, 0, 14, 3, 4, 1, 0, 0, -1, 0, 0);
        race.go(1);
        CHECK.dueBoat("left 5", race, 0, 16, 3, 0, 2, 0, 0, -1, 1, 0);
        race.go(1);
        CHECK.dueBoat("left 6", race, 0, 21, 3, 1, 2, 0, 0, -1, 1, 0);
    }

    private static void rightSpins() {
        CoracleRace race = Races.withBoat(4, 8, 1, 2);
        race.go(1);
        CHECK.dueBoat("right 1", race, 0, 4, 4, -1, 1, 0, 0, -1, 0, 0);
        race.go(1);
        CHECK.dueBoat("right 2", race, 0, 8, 3, -2, 1, 0, 0, -1, 0, 0);
        race.go(1);
        CHECK.dueBoat("right 3", race, 0, 12, 2, -3, 1, 0, 0, -1, 0, 0);
        race.go(1);
        CHECK.dueBoat("right 4", race, 0, 14, 1, -4, 1, 0, 0, -1, 0, 0);
        race.go(1);
        CHECK.dueBoat("right 5", race, 0, 16, 1, 0, 2, 0, 0, -1, 1, 0);
    }

    private static void driftGoesOnWithoutTurning() {
        CoracleRace race = Races.withBoat(0, 8, 6, 110000);
        race.go(4);
        CHECK.dueBoat("drifting at rest", race, 0, 4 + 4 + 3 + 2, 3, 2, 1, 0, 0, -1, 0, 0);
        CoracleRace both = Races.stillWithBoat(4, 8, 6, 223333);
        both.go(4);
        CHECK.dueBoat("drifting with both", both, 0, 3 + 2 + 4 + 4, 1, -2, 1, 0, 0, -1, 0, 0);
    }

    private static void greaterBankFouls() {
        CoracleRace race = Races.withBoat(4, 8, 1, 1);
        race.go(1);
        CHECK.due("no drift by 1", race.boat(0, 4), 0);
        race.go(1);
        CHECK.dueBoat("at the bank", race, 0, 7, 4, 2, 1, 3, 0, -1, 0, 0);
        race.go(2);
        CHECK.dueBoat("at the bank, again", race, 0, 7 + 2 + 1, 4, 4, 1, 9, 0, -1, 0, 0);
        race.go(1);
        CHECK.dueBoat("a spin drifts nowhere", race, 0, 11, 4, 0, 2, 9, 0, -1, 1, 0);
    }

    private static void lesserBankFouls() {
        CoracleRace race = Races.withBoat(0, 8, 1, 2);
        race.go(1);
        CHECK.due("no drift by -1", race.boat(0, 4), 0);
        race.go(1);
        CHECK.dueBoat("at the bank", race, 0, 7, 0, -2, 1, 3, 0, -1, 0, 0);
        race.go(3);
        CHECK.dueBoat("a spin at the bank", race, 0, 11, 0, 0, 2, 9, 0, -1, 1, 0);
        CHECK.due("fouls of all", race.count(4), 9);
    }

    private static void weirStops() {
        CoracleRace race = Races.withBoat(2, 8, 1, 3);
        race.weir(11, 0);
        race.weir(22, 3);
        race.go(1);
        CHECK.dueBoat("comes just to a weir", race, 0, 11, 2, 0, 6, 0, 0, -1, 0, 1);
        race.go(1);
        CHECK.dueBoat("not stopped where it is, one short", race, 0, 21, 2, 0, 6, 0, 0, -1, 0, 1);
        race.go(1);
        CHECK.dueBoat("comes beyond a weir", race, 0, 22, 2, 0, 11, 0, 0, -1, 0, 2);
    }

    private static void weirLetsThrough() {
        CoracleRace race = Races.withBoat(2, 8, 1, 3);
        race.weir(5, 2);
        race.weir(12, 2);
        race.go(1);
        CHECK.dueBoat("through the gap", race, 0, 11, 2, 0, 1, 0, 0, -1, 0, 0);
    }

    private static void firstWeirThatStops() {
        CoracleRace race = Races.withBoat(2, 8, 1, 3);
        race.weir(9, 1);
        race.weir(7, 0);
        race.weir(8, 0);
        race.weir(5, 2);
        race.go(1);
        CHECK.dueBoat("the first that stops", race, 0, 7, 2, 0, 6, 0, 0, -1, 0, 1);
    }

    private static void weirTurnsStraight() {
        CoracleRace race = Races.withBoat(2, 8, 1, 1);
        race.weir(6, 0);
        race.go(1);
        CHECK.dueBoat("straight at the weir", race, 0, 6, 2, 0, 6, 0, 0, -1, 0, 1);
        race.go(1);
        CHECK.due("turns anew", race.boat(0, 2), 1);
    }

    private static void weirLooksAtTheLaneAfterDrift() {
        CoracleRace through = Races.withBoat(2, 8, 1, 1);
        through.weir(8, 3);
        through.go(2);
        CHECK.dueBoat("drifts into the gap's lane", through, 0, 10, 3, 2, 1, 0, 0, -1, 0, 0);
        CoracleRace stopped = Races.withBoat(2, 8, 1, 1);
        stopped.weir(8, 2);
        stopped.go(2);
        CHECK.dueBoat("drifts off the gap's lane", stopped, 0, 8, 3, 0, 6, 0, 0, -1, 0, 1);
    }

    private static void soakingByTicks() {
        CoracleRace race = Races.stillWithBoat(2, 1, 1, 0);
        race.go(1);
        CHECK.due("in the tick 0", race.boat(0, 3), 1);
        race.go(3);
        CHECK.due("not in 1 to 3", race.boat(0, 3), 1);
        race.go(1);
        CHECK.due("in the tick 4", race.boat(0, 3), 2);
        race.go(111);
        CHECK.due("ahead of the tick 116", race.boat(0, 3), 29);
        race.go(1);
        CHECK.due("in the tick 116", race.boat(0, 3), 30);
        race.go(200);
        CHECK.due("held", race.boat(0, 3), 30);
        CHECK.due("nowhere", race.boat(0, 0), 0);
    }

    /** Soaked by 6 at the end of the tick 20: the force is less by 1 from the tick 21 on. */
    private static void soakingSlows() {
        CoracleRace race = Races.stillWithBoat(2, 2, 1, 3);
        race.go(21);
        CHECK.due("the tick 20", race.boat(0, 0), 42);
        race.go(1);
        CHECK.due("the tick 21", race.boat(0, 0), 43);
        race.go(23);
        CHECK.due("the tick 44", race.boat(0, 0), 66);
        race.go(1);
        CHECK.due("the tick 45: no force", race.boat(0, 0), 66);
        race.go(40);
        CHECK.due("the tick 85: never less than none", race.boat(0, 0), 66);
        race.setWater(2, 1);
        race.go(1);
        CHECK.due("water alone", race.boat(0, 0), 67);
        race.tar(0);
        race.go(1);
        CHECK.due("tarred", race.boat(0, 0), 70);

        CoracleRace half = Races.stillWithBoat(2, 5, 1, 0);
        half.go(24);
        half.paddle(0, 1, 1);
        half.go(1);
        CHECK.due("a half of 5, less 1, heading by 1", half.boat(0, 0), 0);
        CoracleRace strong = Races.stillWithBoat(2, 8, 1, 0);
        strong.go(24);
        strong.paddle(0, 1, 1);
        strong.go(1);
        CHECK.due("a half of 8, less 1, heading by 1", strong.boat(0, 0), 2);
    }

    private static void soakingIsHeldByWeirs() {
        CoracleRace race = Races.stillWithBoat(2, 8, 1, 0);
        race.weir(1, 0);
        race.weir(3, 0);
        race.go(105);
        CHECK.due("soaked by ticks", race.boat(0, 3), 27);
        race.paddle(0, 1, 3);
        race.go(1);
        CHECK.dueBoat("held at a weir", race, 0, 1, 2, 0, 30, 0, 0, -1, 0, 1);
        race.go(1);
        CHECK.dueBoat("held at the next weir", race, 0, 3, 2, 0, 30, 0, 0, -1, 0, 2);
    }

    private static void spinIsCarriedByWater() {
        CoracleRace race = Races.withBoat(4, 8, 1, 1);
        race.go(4);
        int place = race.boat(0, 0);
        race.setWater(4, 6);
        race.weir(place + 7, 0);
        race.go(1);
        CHECK.due("water carries a boat that spins", race.boat(0, 0), place + 6);
        CHECK.due("spins", race.boat(0, 7), 1);
        CoracleRace stopped = Races.withBoat(4, 8, 1, 1);
        stopped.go(4);
        stopped.weir(stopped.boat(0, 0) + 1, 0);
        stopped.go(1);
        CHECK.due("a weir stops a boat that spins", stopped.boat(0, 8), 1);
    }

    /** Still water, strength 8: 8 a tick up to the tick 20 (168), then 7: 196 after the tick 24, 200 in the tick 25. */
    private static void comesIn() {
        CoracleRace race = Races.stillWithBoat(2, 8, 1, 3);
        CHECK.due("not yet", race.go(25), 0);
        CHECK.dueBoat("at 196", race, 0, 196, 2, 0, 7, 0, 0, -1, 0, 0);
        CHECK.due("now", race.go(1), 1);
        CHECK.dueBoat("in", race, 0, 200, 2, 0, 7, 0, 1, 26, 0, 0);
        CHECK.dueCounts("in", race, 26, 1, 0, 1, 0, -1, 0);

        CoracleRace early = Races.withBoat(2, 8, 1, 3);
        early.setWater(2, 6);
        early.tar(0);
        early.go(14);
        CHECK.due("196 by 14 a tick", early.boat(0, 0), 196);
        CHECK.due("comes in", early.go(1), 1);
        CHECK.dueBoat("time with fouls", early, 0, 200, 2, 0, 4, 4, 1, 14 + 1 + 4, 0, 0);

        CoracleRace soaking = Races.stillWithBoat(2, 8, 1, 3);
        soaking.weir(192, 2);
        soaking.setWater(2, 2);
        soaking.go(20);
        CHECK.due("199 would be 200", soaking.boat(0, 5), 1);
        CHECK.dueBoat("exactly 200", soaking, 0, 200, 2, 0, 5, 0, 1, 20, 0, 0);

        CoracleRace fourth = Races.withBoat(2, 8, 1, 3);
        fourth.setWater(2, 5);
        fourth.go(16);
        CHECK.dueBoat("in in the tick 15", fourth, 0, 200, 2, 0, 4, 0, 1, 16, 0, 0);
        CoracleRace late = Races.withBoat(2, 8, 1, 3);
        late.setWater(2, 4);
        late.go(17);
        CHECK.dueBoat("in in the tick 16, soaked in it too", late, 0, 200, 2, 0, 5, 0, 1, 17, 0, 0);
    }

    private static void stopsJustAhead() {
        CoracleRace race = Races.stillWithBoat(2, 8, 1, 3);
        race.weir(199, 1);
        CHECK.due("26 ticks", race.go(26), 0);
        CHECK.dueBoat("stopped at 199", race, 0, 199, 2, 0, 12, 0, 0, -1, 0, 1);
        CHECK.due("one more", race.go(1), 1);
        CHECK.dueBoat("in", race, 0, 200, 2, 0, 12, 0, 1, 27, 0, 1);
    }

    private static void inIsIn() {
        CoracleRace race = Races.stillWithBoat(2, 8, 1, 3);
        race.go(26);
        race.paddle(0, 1, 1);
        race.setWater(2, 6);
        CHECK.due("no boat comes in twice", race.go(200), 0);
        CHECK.dueBoat("in, much later", race, 0, 200, 2, 0, 7, 0, 1, 26, 0, 0);
    }

    private static void goAnswers() {
        CoracleRace race = new CoracleRace();
        CHECK.due("go(1) without boats", race.go(1), 0);
        CHECK.due("tick", race.count(0), 1);
        CHECK.due("go(200) without boats", race.go(200), 0);
        CHECK.due("tick", race.count(0), 201);
        for (int i = 0; i < 3; i++) {
            race.launch(2, 8);
        }
        race.launch(2, 1);
        CHECK.due("three come in", race.go(30), 3);
        CHECK.due("the fourth comes in", race.go(100), 1);
        CHECK.due("in", race.count(3), 4);
        CHECK.due("tick", race.count(0), 331);
    }
}
