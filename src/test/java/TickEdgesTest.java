/** The boundary cases of the document's Terms and of promise 11 (go), sentence by sentence. */
public final class TickEdgesTest {
    private static final Check CHECK = new Check();

    public static void main(String[] args) {
        patternComesRoundAgain();
        patternAtFirst();
        patternByTheTickOfTheRace();
        strokeFivesSpin();
        strokeFoursDoNotSpin();
        spinHasNoForce();
        forceIsCutHalf();
        forceIsLessACutSixth();
        forceIsAtLeastNone();
        driftFromTwo();
        driftAtTheBanks();
        driftOnlyIfItHeads();
        goingIsCutByHeading();
        goingByWaterAlone();
        goesNoFarther();
        weirOnTheWay();
        weirWhereItWas();
        weirInTheLaneOfItsGap();
        weirInTheLaneThatItDriftsTo();
        weirFirstSuchOne();
        weirAtTheEnds();
        weirHeadsStraight();
        weirSoaksHeld();
        weirSoaksHeldInAFourthTick();
        soakedInFourthTicks();
        soakedHeld();
        soakedInTheTickInWhichItComesIn();
        inAtTwoHundred();
        inIsNotOnItsWay();
        timeWithFouls();
        tickIsGreater();
        goTicks();
        goRefusesInEachState();
        goReturnsThoseThatComeIn();
        fiveHundredAndTwelveCalls();
        CHECK.end();
    }

    // ---- pattern

    /** One stroke of both in a pattern of rests: the boat goes in each tick with this remainder, and in no other. */
    private static void patternComesRoundAgain() {
        CHECK.sentence("in the tick t that at the place t by the remainder of its length");
        for (int length = 1; length <= 6; length++) {
            int strokes = 3;
            for (int both = length - 1; both >= 0; both--) {
                CoracleRace race = Races.stillWithBoat(2, 1, length, strokes);
                int due = 0;
                for (int tick = 0; tick <= 2 * length; tick++) {
                    race.go(1);
                    due += tick % length == both ? 1 : 0;
                    CHECK.due("both at " + both + " of " + length + ", tick " + tick, race.boat(0, 0), due);
                }
                strokes *= 10;
            }
        }
    }

    private static void patternAtFirst() {
        CHECK.sentence("a row of 1 to 6 strokes (at first one stroke: both)");
        CoracleRace race = Races.still();
        race.launch(2, 8);
        race.go(2);
        CHECK.dueBoat("both in each tick", race, 0, 16, 2, 0);
        CHECK.due("one stroke", race.paddle(0, 1, 3), 1);
    }

    /** Ticks of the race count, not those behind the launch or the telling of the pattern. */
    private static void patternByTheTickOfTheRace() {
        CHECK.sentence("in the tick t that at the place t by the remainder of its length");
        for (int late = 1; late <= 13; late++) {
            CoracleRace race = Races.still();
            race.go(late);
            race.launch(2, 8);
            race.paddle(0, 6, 100000);
            race.go(1);
            CHECK.due("left in the tick " + late, race.boat(0, 2), late % 6 == 0 ? 1 : 0);
        }
    }

    // ---- 1. Stroke

    private static void strokeFivesSpin() {
        CHECK.sentence("If this is 5 or -5 then, the boat spins: it heads by 0");
        for (int stroke = 1; stroke <= 2; stroke++) {
            CoracleRace race = Races.heading(2, 8, stroke == 1 ? 4 : -4);
            race.paddle(0, 1, stroke);
            race.go(1);
            CHECK.due("stroke " + stroke + ": heads by", race.boat(0, 2), 0);
            CHECK.due("stroke " + stroke + ": spun", race.boat(0, 7), 1);
            race.go(4);
            CHECK.due("stroke " + stroke + " four times more: spun", race.boat(0, 7), 1);
            race.go(1);
            CHECK.due("stroke " + stroke + " five times more: spun", race.boat(0, 7), 2);
            CHECK.due("stroke " + stroke + " five times more: heads by", race.boat(0, 2), 0);
        }
    }

    private static void strokeFoursDoNotSpin() {
        CHECK.sentence("heads by -4 to 4");
        int[] turn = {0, 1, -1, 0};
        for (int heading = -4; heading <= 4; heading++) {
            for (int stroke = 0; stroke <= 3; stroke++) {
                int due = heading + turn[stroke];
                if (due < -4 || due > 4) {
                    continue;
                }
                CoracleRace race = Races.heading(2, 1, heading);
                race.paddle(0, 1, stroke);
                race.go(1);
                CHECK.due("from " + heading + " by stroke " + stroke, race.boat(0, 2), due);
                CHECK.due("from " + heading + " by stroke " + stroke + ": spun", race.boat(0, 7), 0);
            }
        }
    }

    private static void spinHasNoForce() {
        CHECK.sentence("and its force is 0 in this tick");
        for (int stroke = 1; stroke <= 2; stroke++) {
            CoracleRace race = Races.heading(2, 8, stroke == 1 ? 4 : -4);
            int before = race.boat(0, 0);
            race.paddle(0, 1, stroke);
            race.go(1);
            CHECK.due("stroke " + stroke + ": goes nowhere", race.boat(0, 0), before);
            race.go(1);
            CHECK.due("stroke " + stroke + ": in the next tick a half of 8, by 3 / 4", race.boat(0, 0), before + 3);
        }
    }

    /** Left and then right: by a half at the heading 1, cut to three quarters, and by a half at the heading 0. */
    private static void forceIsCutHalf() {
        CHECK.sentence("a half (cut) for left or right");
        int[] half = {0, 1, 1, 2, 2, 3, 3, 4};
        int[] threeQuarters = {0, 0, 0, 1, 1, 2, 2, 3};
        for (int strength = 1; strength <= 8; strength++) {
            int due = threeQuarters[strength - 1] + half[strength - 1];
            CoracleRace left = Races.stillWithBoat(2, strength, 2, 12);
            left.go(2);
            CHECK.due("left, right, strength " + strength, left.boat(0, 0), due);
            CoracleRace right = Races.stillWithBoat(2, strength, 2, 21);
            right.go(2);
            CHECK.due("right, left, strength " + strength, right.boat(0, 0), due);
        }
    }

    private static void forceIsLessACutSixth() {
        CHECK.sentence("less a sixth (cut) of how it is soaked");
        int[] soaked = {1, 5, 6, 11, 12, 17, 18, 23, 24, 29, 30};
        int[] less = {0, 0, 1, 1, 2, 2, 3, 3, 4, 4, 5};
        for (int i = 0; i < soaked.length; i++) {
            CoracleRace race = Races.soaked(8, soaked[i]);
            race.paddle(0, 1, 3);
            race.go(1);
            CHECK.due("strength 8, soaked by " + soaked[i], race.boat(0, 0), 8 - less[i]);
        }
        CoracleRace half = Races.soaked(7, 6);
        half.paddle(0, 1, 1);
        half.go(1);
        CHECK.due("the half is cut first: 3, less 1, by 3 / 4", half.boat(0, 0), 1);
    }

    /** The water shows a force below 0, which would take from it. */
    private static void forceIsAtLeastNone() {
        CHECK.sentence("(at least 0)");
        int[] strength = {1, 4, 5, 6};
        int[] goes = {6, 6, 6, 7};
        for (int i = 0; i < strength.length; i++) {
            CoracleRace race = Races.soaked(strength[i], 30);
            race.setWater(2, 6);
            race.paddle(0, 1, 3);
            race.go(1);
            CHECK.due("both, strength " + strength[i] + ", soaked by 30", race.boat(0, 0), goes[i]);
        }
        for (int stroke = 0; stroke <= 2; stroke++) {
            CoracleRace race = Races.soaked(8, 30);
            race.setWater(2, 6);
            race.paddle(0, 1, stroke);
            race.go(1);
            CHECK.due("stroke " + stroke + ", strength 8, soaked by 30", race.boat(0, 0), 6);
        }
    }

    // ---- 2. Drift

    private static void driftFromTwo() {
        CHECK.sentence("if it heads by 2 or more, it comes into the lane with the next greater number,"
            + " with -2 or less into that with the next lesser one");
        int[] drift = {-1, -1, -1, 0, 0, 0, 1, 1, 1};
        for (int heading = -4; heading <= 4; heading++) {
            // Launched at a bank and turned away from it, so that a lane is left to drift into.
            int bank = heading < 0 ? 4 : 0;
            CoracleRace race = Races.heading(bank, 1, heading);
            int lane = race.boat(0, 1);
            CHECK.due("heading by " + heading + ", drifted while it turned",
                Math.abs(lane - bank), Math.max(0, Math.abs(heading) - 1));
            race.go(1);
            CHECK.due("heading by " + heading + ", at rest", race.boat(0, 1), lane + drift[heading + 4]);
            CHECK.due("heading by " + heading + ", fouls", race.boat(0, 4), 0);
        }
    }

    private static void driftAtTheBanks() {
        CHECK.sentence("if there is none, it stays, and has 3 more fouls");
        for (int lane = 0; lane < Races.LANES; lane++) {
            CoracleRace greater = Races.heading(lane, 1, 2);
            CHECK.dueBoat("by 2 from " + lane, greater, 0, 0, lane < 4 ? lane + 1 : 4, 2, 1, lane < 4 ? 0 : 3);
            CoracleRace lesser = Races.heading(lane, 1, -2);
            CHECK.dueBoat("by -2 from " + lane, lesser, 0, 0, lane > 0 ? lane - 1 : 0, -2, 1, lane > 0 ? 0 : 3);
        }
        CoracleRace race = Races.heading(4, 1, 2);
        for (int ticks = 1; ticks <= 100; ticks++) {
            race.go(1);
            CHECK.due("at the bank for " + ticks + " ticks more", race.boat(0, 4), 3 + 3 * ticks);
        }
        CHECK.due("stays", race.boat(0, 1), 4);
    }

    private static void driftOnlyIfItHeads() {
        CHECK.sentence("if there is none, it stays, and has 3 more fouls");
        int[] banks = {0, 4};
        for (int bank : banks) {
            for (int heading = -1; heading <= 1; heading++) {
                CoracleRace race = Races.heading(bank, 1, heading);
                race.go(20);
                CHECK.due("heading by " + heading + " in " + bank + ": lane", race.boat(0, 1), bank);
                CHECK.due("heading by " + heading + " in " + bank + ": fouls", race.boat(0, 4), 0);
            }
        }
        CoracleRace away = Races.heading(4, 1, -2);
        CHECK.due("away from the bank: fouls", away.boat(0, 4), 0);
    }

    // ---- 3. Going

    private static void goingIsCutByHeading() {
        CHECK.sentence("it goes by force * (4 - its heading without the sign) / 4 and the water of its lane, added.");
        int[][] goes = {
            {1, 2, 3, 4, 5, 6, 7, 8},
            {0, 1, 2, 3, 3, 4, 5, 6},
            {0, 1, 1, 2, 2, 3, 3, 4},
            {0, 0, 0, 1, 1, 1, 1, 2},
            {0, 0, 0, 0, 0, 0, 0, 0},
        };
        for (int heading = -4; heading <= 4; heading++) {
            for (int strength = 1; strength <= 8; strength++) {
                CoracleRace race = Races.heading(2, strength, heading);
                int before = race.boat(0, 0);
                race.paddle(0, 1, 3);
                race.go(1);
                CHECK.due("both, strength " + strength + ", heading by " + heading,
                    race.boat(0, 0) - before, goes[Math.abs(heading)][strength - 1]);
            }
        }
    }

    private static void goingByWaterAlone() {
        CHECK.sentence("each lane has water that goes by 0 to 6 a tick (the lanes 0 to 4: 1, 2, 3, 2, 1, at first)");
        int[] atFirst = {1, 2, 3, 2, 1};
        for (int lane = 0; lane < Races.LANES; lane++) {
            CoracleRace race = Races.withBoat(lane, 8, 1, 0);
            race.go(1);
            CHECK.due("at first, lane " + lane, race.boat(0, 0), atFirst[lane]);
            for (int water = 0; water <= 6; water++) {
                int before = race.boat(0, 0);
                race.setWater(lane, water);
                race.go(1);
                CHECK.due("water " + water + ", lane " + lane, race.boat(0, 0), before + water);
            }
        }
    }

    private static void goesNoFarther() {
        CHECK.sentence("It goes no farther than 200.");
        for (int place = 186; place <= 199; place++) {
            CoracleRace race = Races.at(place, 8);
            race.setWater(2, 6);
            race.paddle(0, 1, 3);
            race.go(1);
            CHECK.due("by 14 from " + place, race.boat(0, 0), 200);
            CHECK.due("by 14 from " + place + ": in", race.boat(0, 5), 1);
        }
        CoracleRace short1 = Races.at(185, 8);
        short1.setWater(2, 6);
        short1.paddle(0, 1, 3);
        short1.go(1);
        CHECK.due("by 14 from 185", short1.boat(0, 0), 199);
        CHECK.due("by 14 from 185: in", short1.boat(0, 5), 0);
    }

    /** A boat at 50 that goes by 8, with one weir: at the last place short of its way, within it, and beyond it. */
    private static CoracleRace pastWeir(int place, int gap) {
        CoracleRace race = Races.at(50, 8);
        race.weir(place, gap);
        race.paddle(0, 1, 3);
        race.go(1);
        return race;
    }

    private static void weirOnTheWay() {
        CHECK.sentence("If it would come to a weir, or beyond");
        for (int place = 51; place <= 58; place++) {
            CoracleRace race = pastWeir(place, 1);
            CHECK.due("a weir at " + place, race.boat(0, 0), place);
            CHECK.due("a weir at " + place + ": stopped", race.boat(0, 8), 1);
        }
        CoracleRace beyond = pastWeir(59, 1);
        CHECK.due("a weir at 59, just beyond", beyond.boat(0, 0), 58);
        CHECK.due("a weir at 59, just beyond: stopped", beyond.boat(0, 8), 0);
    }

    private static void weirWhereItWas() {
        CHECK.sentence("that is beyond where it was");
        for (int place = 49; place <= 50; place++) {
            CoracleRace race = pastWeir(place, 1);
            CHECK.due("a weir at " + place, race.boat(0, 0), 58);
            CHECK.due("a weir at " + place + ": stopped", race.boat(0, 8), 0);
        }
        CoracleRace stopped = pastWeir(51, 1);
        int soaked = stopped.boat(0, 3);
        stopped.paddle(0, 1, 0);
        stopped.go(1);
        CHECK.due("it rests where it was stopped", stopped.boat(0, 0), 51);
        CHECK.due("and is not stopped again", stopped.boat(0, 8), 1);
        CHECK.due("nor soaked", stopped.boat(0, 3), soaked);
        stopped.paddle(0, 1, 3);
        stopped.setWater(2, 1);
        stopped.go(1);
        CHECK.due("it goes on from there", stopped.boat(0, 0) > 51 ? 1 : 0, 1);
        CHECK.due("stopped once", stopped.boat(0, 8), 1);
    }

    private static void weirInTheLaneOfItsGap() {
        CHECK.sentence("and is not in the lane of its gap");
        for (int gap = 0; gap < Races.LANES; gap++) {
            CHECK.due("gap " + gap + ", a weir on the way", pastWeir(54, gap).boat(0, 0), gap == 2 ? 58 : 54);
            CHECK.due("gap " + gap + ", a weir at its end", pastWeir(58, gap).boat(0, 8), gap == 2 ? 0 : 1);
        }
    }

    /** Heading by 2 from the lane 3, it is in the lane 4 when it goes, by the water there. */
    private static void weirInTheLaneThatItDriftsTo() {
        CHECK.sentence("and is not in the lane of its gap");
        for (int gap = 3; gap <= 4; gap++) {
            CoracleRace race = Races.heading(2, 1, 2);
            CHECK.due("ahead of the drift", race.boat(0, 1), 3);
            race.setWater(4, 5);
            race.weir(5, gap);
            race.weir(4, 4);
            race.go(1);
            CHECK.due("gap " + gap + ": place", race.boat(0, 0), 5);
            CHECK.due("gap " + gap + ": stopped", race.boat(0, 8), gap == 4 ? 0 : 1);
        }
    }

    private static void weirFirstSuchOne() {
        CHECK.sentence("it stops at this (the first such one)");
        CoracleRace race = Races.at(50, 8);
        race.weir(58, 0);
        race.weir(55, 4);
        race.weir(54, 3);
        race.weir(56, 1);
        race.weir(53, 2);
        race.weir(50, 0);
        race.paddle(0, 1, 3);
        int[] stops = {54, 55, 56, 58};
        for (int i = 0; i < stops.length; i++) {
            race.go(1);
            CHECK.due("stop " + (i + 1), race.boat(0, 0), stops[i]);
            CHECK.due("stop " + (i + 1) + ": stopped", race.boat(0, 8), i + 1);
        }
        race.go(1);
        CHECK.due("beyond them all: stopped", race.boat(0, 8), 4);
    }

    private static void weirAtTheEnds() {
        CHECK.sentence("each at a place of its own, 1 to 199");
        CoracleRace first = Races.stillWithBoat(2, 8, 1, 3);
        first.weir(1, 0);
        first.go(1);
        CHECK.dueBoat("at 1", first, 0, 1, 2, 0, 6, 0, 0, -1, 0, 1);
        CoracleRace last = Races.at(198, 8);
        last.weir(199, 0);
        last.setWater(2, 6);
        last.paddle(0, 1, 3);
        last.go(1);
        CHECK.due("at 199", last.boat(0, 0), 199);
        CHECK.due("at 199: in", last.boat(0, 5), 0);
        last.go(1);
        CHECK.due("from 199 on: in", last.boat(0, 5), 1);
    }

    private static void weirHeadsStraight() {
        CHECK.sentence("heads by 0, and is soaked by 5 more");
        for (int heading = -4; heading <= 4; heading++) {
            CoracleRace race = Races.heading(2, 1, heading);
            int place = race.boat(0, 0);
            for (int lane = 0; lane < Races.LANES; lane++) {
                race.setWater(lane, 6);
            }
            // A gap at the bank that it does not drift to.
            race.weir(place + 6, heading < 0 ? 4 : 0);
            race.go(1);
            CHECK.due("heading by " + heading + ": stopped", race.boat(0, 8), 1);
            CHECK.due("heading by " + heading + ": heads by", race.boat(0, 2), 0);
        }
        CoracleRace through = Races.heading(2, 1, 1);
        through.setWater(2, 6);
        through.weir(6, 2);
        through.go(1);
        CHECK.due("through the gap it heads by", through.boat(0, 2), 1);
    }

    private static CoracleRace soakedAtWeir(int soaked, int ticksMore) {
        CoracleRace race = Races.soaked(8, soaked);
        for (int i = 0; i < ticksMore; i++) {
            race.go(1);
        }
        race.weir(1, 0);
        race.paddle(0, 1, 3);
        race.go(1);
        CHECK.due("soaked by " + soaked + ": stopped", race.boat(0, 8), 1);
        return race;
    }

    private static void weirSoaksHeld() {
        CHECK.sentence("(held at 30, here and in step 3)");
        int[] soaked = {1, 2, 24, 25, 26, 29, 30};
        int[] due = {6, 7, 29, 30, 30, 30, 30};
        for (int i = 0; i < soaked.length; i++) {
            CHECK.due("by a weir, from " + soaked[i], soakedAtWeir(soaked[i], 0).boat(0, 3), due[i]);
        }
    }

    private static void weirSoaksHeldInAFourthTick() {
        CHECK.sentence("(held at 30, here and in step 3)");
        int[] soaked = {1, 23, 24, 25, 30};
        int[] due = {7, 29, 30, 30, 30};
        for (int i = 0; i < soaked.length; i++) {
            CHECK.due("by a weir and by the tick, from " + soaked[i], soakedAtWeir(soaked[i], 3).boat(0, 3), due[i]);
        }
    }

    // ---- 4. and 5.

    private static void soakedInFourthTicks() {
        CHECK.sentence("In ticks that can be divided by 4 it is soaked by 1 more");
        for (int launched = 0; launched <= 9; launched++) {
            CoracleRace race = Races.still();
            for (int i = 0; i < launched; i++) {
                race.go(1);
            }
            race.launch(0, 1);
            int due = 0;
            for (int tick = launched; tick <= 20; tick++) {
                race.go(1);
                due += tick % 4 == 0 ? 1 : 0;
                CHECK.due("launched at " + launched + ", tick " + tick, race.boat(0, 3), due);
            }
        }
    }

    private static void soakedHeld() {
        CHECK.sentence("(held at 30, here and in step 3)");
        CoracleRace race = Races.soaked(1, 29);
        race.go(3);
        CHECK.due("ahead of the thirtieth", race.boat(0, 3), 29);
        race.go(1);
        CHECK.due("the thirtieth", race.boat(0, 3), 30);
        race.go(4);
        CHECK.due("no thirty-first", race.boat(0, 3), 30);
        race.go(200);
        CHECK.due("held", race.boat(0, 3), 30);
    }

    private static void soakedInTheTickInWhichItComesIn() {
        CHECK.sentence("In ticks that can be divided by 4 it is soaked by 1 more");
        for (int ticksMore = 0; ticksMore <= 7; ticksMore++) {
            CoracleRace race = Races.at(199, 8);
            for (int i = 0; i < ticksMore; i++) {
                race.go(1);
            }
            int before = race.boat(0, 3);
            int tick = race.count(0);
            race.setWater(2, 1);
            CHECK.due("comes in in the tick " + tick, race.go(1), 1);
            CHECK.due("soaked in the tick " + tick, race.boat(0, 3) - before, tick % 4 == 0 ? 1 : 0);
            race.go(8);
            CHECK.due("and not when it is in", race.boat(0, 3) - before, tick % 4 == 0 ? 1 : 0);
        }
    }

    private static void inAtTwoHundred() {
        CHECK.sentence("At 200 it is in, with this tick.");
        for (int water = 1; water <= 3; water++) {
            CoracleRace race = Races.at(197, 8);
            int tick = race.count(0);
            int fouls = race.boat(0, 4);
            race.setWater(2, water);
            int ticks = (3 + water - 1) / water;
            for (int i = 1; i < ticks; i++) {
                CHECK.due("ahead of it, by " + water, race.go(1), 0);
                CHECK.due("on its way, by " + water, race.boat(0, 5), 0);
            }
            CHECK.due("now, by " + water, race.go(1), 1);
            CHECK.due("in, by " + water, race.boat(0, 5), 1);
            CHECK.due("with this tick, by " + water, race.boat(0, 6), tick + ticks - 1 + 1 + fouls);
        }
    }

    /** It heads by 2 at the bank when it comes in: were it still on its way, it would turn, foul and be soaked. */
    private static CoracleRace inAtTheBank() {
        CoracleRace race = Races.at(190, 2);
        race.paddle(0, 1, 1);
        race.go(2);
        race.paddle(0, 1, 0);
        race.go(1);
        race.setWater(4, 6);
        CHECK.due("comes in", race.go(2), 1);
        return race;
    }

    private static void inIsNotOnItsWay() {
        CHECK.sentence("A tick goes like this, boat by boat, for those that are on their way");
        CoracleRace race = inAtTheBank();
        CoracleRace later = inAtTheBank();
        CHECK.due("heads as it came in", later.boat(0, 2), 2);
        later.paddle(0, 1, 1);
        for (int ticks = 1; ticks <= 10; ticks++) {
            later.go(1);
            for (int what = 0; what <= 8; what++) {
                CHECK.due(ticks + " ticks later: boat(0, " + what + ")", later.boat(0, what), race.boat(0, what));
            }
        }
    }

    private static void timeWithFouls() {
        CHECK.sentence("Time of a boat that is in: its tick, 1, and its fouls, added.");
        CoracleRace race = Races.stillWithBoat(2, 8, 1, 3);
        race.go(26);
        CHECK.due("without fouls, in the tick 25", race.boat(0, 6), 26);
        CoracleRace tarred = Races.stillWithBoat(2, 8, 1, 3);
        tarred.tar(0);
        tarred.go(26);
        CHECK.due("with 4 fouls", tarred.boat(0, 6), 30);
        CoracleRace soonest = Races.withBoat(2, 8, 1, 3);
        soonest.setWater(2, 6);
        soonest.go(14);
        CHECK.due("no boat is in by 14 ticks", soonest.count(3), 0);
        soonest.go(1);
        CHECK.due("the soonest of all", soonest.boat(0, 6), 15);
    }

    private static void tickIsGreater() {
        CHECK.sentence("Then the tick is 1 greater.");
        CoracleRace race = Races.withAllIn();
        int tick = race.count(0);
        for (int i = 1; i <= 8; i++) {
            race.go(1);
            CHECK.due("with all boats in", race.count(0), tick + i);
        }
        Check.answer(() -> race.go(0));
        Check.answer(() -> race.go(201));
        CHECK.due("not by a refused call", race.count(0), tick + 8);
    }

    // ---- promise 11

    private static void goTicks() {
        CHECK.sentence("Throws IllegalArgumentException if ticks is not 1 to 200");
        CHECK.range("go(ticks)", Races::withOneIn, IllegalArgumentException.class, 1, 200,
            (race, ticks) -> race.go(ticks));
        for (int ticks = 1; ticks <= 200; ticks++) {
            CoracleRace race = Races.withBoats(1);
            race.go(ticks);
            CHECK.due("the tick behind go(" + ticks + ")", race.count(0), ticks);
        }
    }

    private static void goRefusesInEachState() {
        CHECK.sentence("A method that throws an exception changes nothing.");
        CHECK.illegalArgument("go(0), new", Races::empty, race -> race.go(0));
        CHECK.illegalArgument("go(201), new", Races::empty, race -> race.go(201));
        CHECK.illegalArgument("go(0), six weirs", () -> Races.withWeirs(6), race -> race.go(0));
        CHECK.illegalArgument("go(201), six boats", () -> Races.withBoats(6), race -> race.go(201));
        CHECK.illegalArgument("go(-200), all in", Races::withAllIn, race -> race.go(-200));
    }

    private static void goReturnsThoseThatComeIn() {
        CHECK.sentence("Returns how many boats come in in them.");
        CHECK.due("none there", Races.empty().go(200), 0);
        CHECK.due("all are in ahead of it", Races.withAllIn().go(200), 0);
        CHECK.due("all six at once", Races.withBoats(6).go(200), 6);
        CoracleRace race = Races.stillWithBoat(2, 8, 1, 3);
        race.launch(2, 8);
        race.launch(2, 7);
        CHECK.due("one tick short", race.go(25), 0);
        CHECK.due("in the very tick", race.go(1), 2);
        CHECK.due("those that are in do not come in again", race.go(3), 0);
        CHECK.due("the last one", race.go(1), 1);
    }

    // ---- the row of calls

    /** At rest at the bank, heading by 2, the boat has 3 more fouls in each tick, as many as there may be. */
    private static void fiveHundredAndTwelveCalls() {
        CHECK.sentence("An object is used for at most 512 calls after it has been made");
        CoracleRace race = new CoracleRace();
        race.launch(4, 1);
        race.setWater(4, 0);
        race.paddle(0, 1, 1);
        race.go(2);
        race.paddle(0, 1, 0);
        int ticks = 2;
        for (int call = 6; call <= 510; call++) {
            race.go(200);
            ticks += 200;
        }
        CHECK.due("the call 511", race.count(0), ticks);
        CHECK.due("the call 512", race.boat(0, 4), 3 * (ticks - 1));
    }
}
