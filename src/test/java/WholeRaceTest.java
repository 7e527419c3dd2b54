/**
 * The sentences that name no boundary case, and once more the steps 4 and 5, rank and arrives, most of them in a race
 * with six boats, six weirs, spins, banks and stops.
 */
public final class WholeRaceTest {
    private static final int BOATS = Races.MOST_BOATS;
    private static final int FACTS = 9;
    private static final int TICKS = 210;
    private static final Check CHECK = new Check();

    public static void main(String[] args) {
        mixedRaceHasAll();
        strokesTurn();
        forceOfEachStroke();
        boatByBoat();
        soakedThenIn();
        timeWithFoulsOfTheBank();
        setWaterOfOneLane();
        paddleTellsOneBoat();
        tarsOneBoat();
        howOftenItSpun();
        howOftenStopped();
        countsOfBoats();
        ranks();
        letsTicksGoBy();
        returnsThoseThatComeIn();
        behindHowManyTicks();
        behindAtMost400();
        foreseesWhatIsThere();
        advisesTheFarthest();
        meanPlace();
        CHECK.end();
    }

    private static CoracleRace mixedAt(int tick) {
        CoracleRace race = Races.mixed();
        for (int i = 0; i < tick; i++) {
            race.go(1);
        }
        return race;
    }

    private static int[] facts(CoracleRace race, int boat) {
        int[] facts = new int[FACTS];
        for (int what = 0; what < FACTS; what++) {
            facts[what] = race.boat(boat, what);
        }
        return facts;
    }

    /** What the other tests here ask of the mixed race: without it they would show little. */
    private static void mixedRaceHasAll() {
        CHECK.sentence("Round boats are paddled by patterns of strokes, now on the left, now on the right,"
            + " and spin if they turn too far");
        CoracleRace race = mixedAt(TICKS);
        int[] seen = new int[FACTS];
        for (int boat = 0; boat < BOATS; boat++) {
            for (int what = 0; what < FACTS; what++) {
                seen[what] += race.boat(boat, what) > 0 ? 1 : 0;
            }
        }
        CHECK.due("boats with fouls", seen[4], 3);
        CHECK.due("boats that are in", seen[5], 5);
        CHECK.due("boats that spun", seen[7], 3);
        CHECK.due("boats that a weir stopped", seen[8], 5);
    }

    // ---- Terms

    private static void strokesTurn() {
        CHECK.sentence("left heads it by 1 more, right by 1 less");
        CoracleRace race = Races.stillWithBoat(2, 4, 6, 112220);
        int[] heading = {1, 2, 1, 0, -1, -1, 0, 1, 0, -1, -2, -2};
        for (int tick = 0; tick < heading.length; tick++) {
            race.go(1);
            CHECK.due("behind the tick " + tick, race.boat(0, 2), heading[tick]);
        }
    }

    private static void forceOfEachStroke() {
        CHECK.sentence("0 rest, 1 left, 2 right, 3 both");
        int[][] goes = {
            {0, 0, 0, 0, 0, 0, 0, 0},
            {0, 0, 0, 1, 1, 2, 2, 3},
            {0, 0, 0, 1, 1, 2, 2, 3},
            {1, 2, 3, 4, 5, 6, 7, 8},
        };
        int[] turns = {0, 1, -1, 0};
        for (int stroke = 0; stroke <= 3; stroke++) {
            for (int strength = 1; strength <= 8; strength++) {
                CoracleRace race = Races.stillWithBoat(2, strength, 1, stroke);
                race.go(1);
                String what = "stroke " + stroke + ", strength " + strength;
                CHECK.due(what + ": goes", race.boat(0, 0), goes[stroke][strength - 1]);
                CHECK.due(what + ": turns", race.boat(0, 2), turns[stroke]);
            }
        }
    }

    /** Each boat goes as it would if it were alone: no other one is in its way, nor takes its water or its weirs. */
    private static void boatByBoat() {
        CHECK.sentence("A tick goes like this, boat by boat");
        for (int boat = 0; boat < BOATS; boat++) {
            CoracleRace together = Races.mixed();
            CoracleRace alone = Races.mixedRiver();
            Races.launchMixed(alone, boat);
            for (int tick = 0; tick < TICKS; tick++) {
                together.go(1);
                alone.go(1);
                CHECK.dueBoat("behind the tick " + tick + ", as alone", together, boat, facts(alone, 0));
            }
        }
    }

    /** It comes in in the tick 16, and is soaked in it, as step 4 goes ahead of step 5; in the tick 15 it is not. */
    private static void soakedThenIn() {
        CHECK.sentence("4. In ticks that can be divided by 4 it is soaked by 1 more (held at 30, here and in step 3)."
            + " 5. At 200 it is in, with this tick.");
        CoracleRace fourth = Races.withBoat(2, 8, 1, 3);
        fourth.setWater(2, 4);
        CHECK.due("in the tick 16: comes in", fourth.go(17), 1);
        CHECK.dueBoat("in the tick 16", fourth, 0, 200, 2, 0, 5, 0, 1, 17, 0, 0);
        CoracleRace other = Races.withBoat(2, 8, 1, 3);
        other.setWater(2, 5);
        CHECK.due("in the tick 15: comes in", other.go(16), 1);
        CHECK.dueBoat("in the tick 15", other, 0, 200, 2, 0, 4, 0, 1, 16, 0, 0);
    }

    /** Turned to the bank, by water alone: 6 a tick, in in the tick 33, with 3 fouls for each tick from 1 to 33. */
    private static void timeWithFoulsOfTheBank() {
        CHECK.sentence("Time of a boat that is in: its tick, 1, and its fouls, added.");
        CoracleRace race = Races.withBoat(4, 1, 1, 1);
        race.setWater(4, 6);
        race.go(2);
        race.paddle(0, 1, 0);
        CHECK.due("comes in", race.go(32), 1);
        CHECK.dueBoat("with fouls of the bank", race, 0, 200, 4, 2, 9, 99, 1, 33 + 1 + 99, 0, 0);
        for (int tick = 0; tick < TICKS; tick += 10) {
            dueTimes(tick);
        }
    }

    private static void dueTimes(int tick) {
        CoracleRace race = mixedAt(tick);
        CoracleRace then = Races.mixed();
        for (int boat = 0; boat < BOATS; boat++) {
            int in = race.boat(boat, 5);
            int arrived = then.arrives(boat);
            int due = in == 0 ? -1 : arrived - 1 + 1 + race.boat(boat, 4);
            CHECK.due("the time of boat " + boat + " at the tick " + tick, race.boat(boat, 6), due);
            CHECK.due("boat " + boat + " is in at the tick " + tick, in, arrived >= 0 && arrived <= tick ? 1 : 0);
        }
    }

    // ---- promises 2 to 8

    private static void setWaterOfOneLane() {
        CHECK.sentence("its water from now on");
        int[] atFirst = {1, 2, 3, 2, 1};
        for (int lane = 0; lane < Races.LANES; lane++) {
            CoracleRace race = new CoracleRace();
            race.setWater(lane, 6);
            for (int i = 0; i < Races.LANES; i++) {
                race.launch(i, 1);
                race.paddle(i, 1, 0);
            }
            race.go(1);
            for (int i = 0; i < Races.LANES; i++) {
                CHECK.due("with 6 in the lane " + lane + ", carried in the lane " + i,
                    race.boat(i, 0), i == lane ? 6 : atFirst[i]);
            }
        }
    }

    private static void paddleTellsOneBoat() {
        CHECK.sentence("Tells a boat its pattern.");
        for (int boat = 0; boat < BOATS; boat++) {
            CoracleRace told = mixedAt(7);
            CoracleRace quiet = mixedAt(7);
            told.paddle(boat, 2, 21);
            for (int i = 0; i < BOATS; i++) {
                CHECK.dueBoat("boat " + boat + " told, at once", told, i, facts(quiet, i));
            }
            told.go(9);
            quiet.go(9);
            for (int i = 0; i < BOATS; i++) {
                if (i != boat) {
                    CHECK.dueBoat("boat " + boat + " told, 9 ticks later", told, i, facts(quiet, i));
                }
            }
        }
    }

    private static void tarsOneBoat() {
        CHECK.sentence("Tars a boat: it is not soaked any more, and has 4 more fouls.");
        for (int boat = 0; boat < BOATS; boat++) {
            CoracleRace tarred = mixedAt(30);
            CoracleRace quiet = mixedAt(30);
            CHECK.due("tar(" + boat + ")", tarred.tar(boat), quiet.boat(boat, 3));
            for (int i = 0; i < BOATS; i++) {
                int[] due = facts(quiet, i);
                if (i == boat) {
                    due[3] = 0;
                    due[4] += 4;
                }
                CHECK.dueBoat("boat " + boat + " tarred", tarred, i, due);
            }
        }
    }

    private static void howOftenItSpun() {
        CHECK.sentence("7 how often it spun");
        for (int stroke = 1; stroke <= 2; stroke++) {
            CoracleRace race = Races.stillWithBoat(2, 1, 1, stroke);
            for (int ticks = 1; ticks <= 60; ticks++) {
                race.go(1);
                CHECK.due("stroke " + stroke + ", " + ticks + " times", race.boat(0, 7), ticks / 5);
            }
        }
    }

    private static void howOftenStopped() {
        CHECK.sentence("8 how often a weir stopped it");
        CoracleRace race = Races.stillWithBoat(2, 8, 1, 0);
        race.setWater(2, 6);
        for (int i = 1; i <= Races.MOST_WEIRS; i++) {
            race.weir(6 * i, 0);
        }
        int[] soaked = {6, 11, 16, 21, 27, 30, 30};
        for (int ticks = 1; ticks <= 7; ticks++) {
            race.go(1);
            CHECK.dueBoat("behind " + ticks, race, 0, 6 * ticks, 2, 0, soaked[ticks - 1], 0, 0, -1, 0,
                Math.min(ticks, Races.MOST_WEIRS));
        }
    }

    private static void countsOfBoats() {
        CHECK.sentence("3 boats that are in, 4 fouls of all, added, 5 the boat that leads");
        CoracleRace race = Races.mixed();
        for (int tick = 0; tick <= TICKS; tick++) {
            int in = 0;
            int fouls = 0;
            int leader = -1;
            int winner = -1;
            // From the last to the first, so that of several the smallest number is what stays.
            for (int boat = BOATS - 1; boat >= 0; boat--) {
                in += race.boat(boat, 5);
                fouls += race.boat(boat, 4);
                if (race.boat(boat, 5) == 0 && (leader < 0 || race.boat(boat, 0) >= race.boat(leader, 0))) {
                    leader = boat;
                }
                if (race.boat(boat, 5) == 1 && (winner < 0 || race.boat(boat, 6) <= race.boat(winner, 6))) {
                    winner = boat;
                }
            }
            CHECK.dueCounts("at the tick " + tick, race, tick, BOATS, Races.MOST_WEIRS, in, fouls, leader, winner);
            race.go(1);
        }
    }

    // ---- promise 10

    private static boolean isAhead(CoracleRace race, int other, int boat) {
        boolean otherIn = race.boat(other, 5) == 1;
        boolean boatIn = race.boat(boat, 5) == 1;
        if (otherIn && boatIn) {
            return race.boat(boat, 6) > race.boat(other, 6);
        }
        if (!otherIn && !boatIn) {
            return race.boat(boat, 0) < race.boat(other, 0);
        }
        return otherIn;
    }

    private static void dueRanksByFacts(String what, CoracleRace race) {
        for (int boat = 0; boat < race.count(1); boat++) {
            int due = 1;
            for (int other = 0; other < race.count(1); other++) {
                due += other != boat && isAhead(race, other, boat) ? 1 : 0;
            }
            CHECK.due(what + ": rank(" + boat + ")", race.rank(boat), due);
        }
    }

    private static void ranks() {
        CHECK.sentence("1 and how many other boats are ahead of it: one that is in is ahead of all that are not,"
            + " and of those that are in with a greater time;"
            + " one on its way of those on their way with a lesser place");
        CoracleRace mixed = Races.mixed();
        for (int tick = 0; tick <= TICKS; tick++) {
            dueRanksByFacts("mixed, at the tick " + tick, mixed);
            mixed.go(1);
        }
        // Pairs that are as far, and have the same time.
        CoracleRace pairs = Races.still();
        for (int boat = 0; boat < BOATS; boat++) {
            pairs.launch(2, 8 - boat / 2);
        }
        pairs.tar(0);
        pairs.tar(1);
        int[] due = {1, 1, 3, 3, 5, 5};
        for (int ticks = 1; ticks <= 26; ticks++) {
            pairs.go(1);
            CHECK.dueRanks("pairs behind " + ticks, pairs, due);
        }
        // Strength 8 with 4 fouls has the time 30, and so has strength 7 with none.
        pairs.go(4);
        CHECK.due("the second pair's time", pairs.boat(2, 6), 30);
        CHECK.dueRanks("pairs with the same time", pairs, 1, 1, 1, 1, 5, 5);
    }

    // ---- promise 11

    private static void letsTicksGoBy() {
        CHECK.sentence("Lets ticks go by.");
        for (int ticks = 1; ticks <= 200; ticks++) {
            CoracleRace atOnce = Races.mixed();
            int in = atOnce.go(ticks);
            CoracleRace oneByOne = Races.mixed();
            int inOneByOne = 0;
            for (int i = 0; i < ticks; i++) {
                inOneByOne += oneByOne.go(1);
            }
            CHECK.due("digest() behind go(" + ticks + ")", atOnce.digest(), oneByOne.digest());
            CHECK.due("go(" + ticks + ")", in, inOneByOne);
        }
    }

    private static void returnsThoseThatComeIn() {
        CHECK.sentence("Returns how many boats come in in them.");
        CoracleRace race = Races.mixed();
        int[] came = new int[TICKS + 1];
        for (int tick = 0; tick < TICKS; tick++) {
            came[race.count(3)]++;
            int before = race.count(3);
            CHECK.due("go(1) in the tick " + tick, race.go(1), race.count(3) - before);
        }
        for (int in = 0; in <= 5; in++) {
            CHECK.due("there are ticks with " + in + " in", came[in] > 0 ? 1 : 0, 1);
        }
    }

    // ---- promises 12 to 15

    private static void behindHowManyTicks() {
        CHECK.sentence("Returns behind how many ticks it is in, if nothing is done");
        int[] arrived = new int[BOATS];
        CoracleRace gone = Races.mixed();
        for (int tick = 1; tick <= 410; tick++) {
            gone.go(1);
            for (int boat = 0; boat < BOATS; boat++) {
                arrived[boat] = arrived[boat] == 0 && gone.boat(boat, 5) == 1 ? tick : arrived[boat];
            }
        }
        CoracleRace asked = Races.mixed();
        for (int tick = 0; tick <= TICKS; tick++) {
            for (int boat = 0; boat < BOATS; boat++) {
                int due = arrived[boat] == 0 ? -1 : Math.max(0, arrived[boat] - tick);
                CHECK.due("arrives(" + boat + ") at the tick " + tick, asked.arrives(boat), due);
            }
            asked.go(1);
        }
    }

    /** The boat goes by 1 in every other tick, soaked as much as may be: from the place that is left, 2 ticks for each. */
    private static void behindAtMost400() {
        CHECK.sentence("0 if it is, at most 400; -1 if not by then");
        CoracleRace race = Races.stillWithBoat(2, 6, 1, 0);
        race.go(120);
        race.paddle(0, 2, 3);
        CHECK.due("soaked by", race.boat(0, 3), 30);
        for (int ticks = 400; ticks >= 0; ticks--) {
            CHECK.due("with " + ticks + " left", race.arrives(0), ticks);
            race.go(1);
        }
        CoracleRace later = Races.stillWithBoat(2, 6, 1, 0);
        later.go(121);
        later.paddle(0, 2, 30);
        CHECK.due("an odd tick, stroke in even ones", later.arrives(0), 400);
        later.paddle(0, 3, 300);
        CHECK.due("a stroke in three ticks", later.arrives(0), -1);
    }

    private static void foreseesWhatIsThere() {
        CHECK.sentence("Returns this, behind so many ticks, if nothing is done");
        int[] from = {0, 1, 18, 47, 97};
        for (int tick : from) {
            CoracleRace asked = mixedAt(tick);
            CoracleRace gone = mixedAt(tick);
            for (int ticks = 1; ticks <= 100; ticks++) {
                gone.go(1);
                for (int what = 3; what <= 6; what++) {
                    CHECK.due("at the tick " + tick + ": foresee(" + ticks + ", " + what + ")",
                        asked.foresee(ticks, what), gone.count(what));
                }
            }
        }
    }

    private static void advisesTheFarthest() {
        CHECK.sentence("Looks for the pattern of two strokes with which a boat, if it has it from now on,"
            + " comes the farthest in so many ticks.");
        int[] from = {0, 3, 10, 41, 60};
        int[] ahead = {1, 2, 3, 7, 20, 33, 60};
        for (int tick : from) {
            for (int ticks : ahead) {
                for (int boat = 0; boat < BOATS; boat++) {
                    CHECK.due("at the tick " + tick + ": advise(" + boat + ", " + ticks + ")",
                        mixedAt(tick).advise(boat, ticks), farthest(tick, boat, ticks));
                }
            }
        }
    }

    /** The boat is really told each pattern, from the greatest on, so that of several the least stays. */
    private static int farthest(int tick, int boat, int ticks) {
        int best = -1;
        int place = -1;
        for (int first = 3; first >= 0; first--) {
            for (int second = 3; second >= 0; second--) {
                CoracleRace race = mixedAt(tick);
                race.paddle(boat, 2, 10 * first + second);
                race.go(ticks);
                if (race.boat(boat, 0) >= place) {
                    place = race.boat(boat, 0);
                    best = 10 * first + second;
                }
            }
        }
        return best;
    }

    private static void meanPlace() {
        CHECK.sentence("Returns the mean place of all boats");
        CoracleRace race = Races.mixed();
        for (int tick = 0; tick <= TICKS; tick++) {
            double sum = 0;
            for (int boat = 0; boat < BOATS; boat++) {
                sum += race.boat(boat, 0);
            }
            CHECK.dueDouble("at the tick " + tick, race.mean(), sum / BOATS);
            race.go(1);
        }
    }
}
