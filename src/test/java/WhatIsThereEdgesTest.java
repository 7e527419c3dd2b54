/** The boundary cases of promises 7 to 10, sentence by sentence: boat, count, next, rank. */
public final class WhatIsThereEdgesTest {
    private static final Class<IndexOutOfBoundsException> OUT_OF_BOUNDS = IndexOutOfBoundsException.class;
    private static final Class<IllegalArgumentException> ILLEGAL_ARGUMENT = IllegalArgumentException.class;
    private static final int[] BOATS_THERE = {0, 1, Races.MOST_BOATS};
    private static final Check CHECK = new Check();

    public static void main(String[] args) {
        boatNumber();
        boatWhat();
        boatBothWrong();
        boatPlace();
        boatLane();
        boatHeading();
        boatSoaked();
        boatInAndTime();
        countWhat();
        countNothingThere();
        countAsManyAsMayBe();
        countIn();
        countFoulsOfAll();
        countLeaderOfSeveral();
        countLeaderNone();
        countWinnerOfSeveral();
        countWinnerNone();
        nextPlace();
        nextBeyond();
        nextNone();
        nextOfSixWeirs();
        rankBoat();
        rankAlone();
        rankLast();
        rankInAheadOfAllThatAreNot();
        rankInWithAGreaterTime();
        rankOnTheirWay();
        CHECK.end();
    }

    // ---- promise 7

    private static void boatNumber() {
        CHECK.sentence("Throws IndexOutOfBoundsException if there is no such boat");
        for (int there : BOATS_THERE) {
            CHECK.range("boat(boat, 8) of " + there, () -> Races.withBoats(there), OUT_OF_BOUNDS, 0, there - 1,
                (race, boat) -> race.boat(boat, 8));
        }
    }

    private static void boatWhat() {
        CHECK.sentence("or what is not 0 to 8");
        CHECK.range("boat(0, what), in", Races::withOneIn, OUT_OF_BOUNDS, 0, 8, (race, what) -> race.boat(0, what));
        CHECK.range("boat(1, what), on its way", Races::withOneIn, OUT_OF_BOUNDS, 0, 8,
            (race, what) -> race.boat(1, what));
    }

    private static void boatBothWrong() {
        CHECK.sentence("Throws IndexOutOfBoundsException if there is no such boat, or what is not 0 to 8");
        CHECK.outOfBounds("boat(2, 9)", Races::withOneIn, race -> race.boat(2, 9));
        CHECK.outOfBounds("boat(-1, -1)", Races::withOneIn, race -> race.boat(-1, -1));
        CHECK.outOfBounds("boat(0, 0) without boats", Races::empty, race -> race.boat(0, 0));
    }

    private static void boatPlace() {
        CHECK.sentence("0 its place");
        CoracleRace race = Races.withBoat(2, 1, 1, 3);
        CHECK.due("the least", race.boat(0, 0), 0);
        race.go(200);
        CHECK.due("the most", race.boat(0, 0), 200);
    }

    private static void boatLane() {
        CHECK.sentence("1 its lane");
        for (int lane = 0; lane < Races.LANES; lane++) {
            CHECK.due("launched in " + lane, Races.withBoat(lane, 1, 1, 3).boat(0, 1), lane);
        }
        CoracleRace race = Races.withBoat(0, 1, 1, 1);
        int[] byLeft = {0, 1, 2, 3, 3};
        for (int tick = 0; tick < byLeft.length; tick++) {
            race.go(1);
            CHECK.due("left in the tick " + tick, race.boat(0, 1), byLeft[tick]);
        }
    }

    private static void boatHeading() {
        CHECK.sentence("2 how it heads");
        for (int heading = -4; heading <= 4; heading++) {
            CHECK.due("turned by " + heading, Races.heading(2, 1, heading).boat(0, 2), heading);
            CHECK.due("spun by " + heading, Races.heading(2, 1, heading).boat(0, 7), 0);
        }
    }

    private static void boatSoaked() {
        CHECK.sentence("3 by how much it is soaked");
        CHECK.due("the least", Races.withBoats(1).boat(0, 3), 0);
        for (int soaked = 1; soaked <= Races.MOST_SOAKED; soaked++) {
            CHECK.due("soaked by " + soaked, Races.soaked(1, soaked).boat(0, 3), soaked);
        }
    }

    private static void boatInAndTime() {
        CHECK.sentence("5 1 if it is in, else 0, 6 its time, -1 if it is not in");
        CoracleRace race = Races.at(199, 8);
        int tick = race.count(0);
        int fouls = race.boat(0, 4);
        CHECK.due("at 199: in", race.boat(0, 5), 0);
        CHECK.due("at 199: time", race.boat(0, 6), -1);
        race.setWater(2, 1);
        race.go(1);
        CHECK.due("at 200: in", race.boat(0, 5), 1);
        CHECK.due("at 200: time", race.boat(0, 6), tick + 1 + fouls);
        race.go(200);
        CHECK.due("much later: time", race.boat(0, 6), tick + 1 + fouls);
    }

    // ---- promise 8

    private static void countWhat() {
        CHECK.sentence("Throws IndexOutOfBoundsException if what is not 0 to 6");
        CHECK.range("count(what), new", Races::empty, OUT_OF_BOUNDS, 0, 6, (race, what) -> race.count(what));
        CHECK.range("count(what), one in", Races::withOneIn, OUT_OF_BOUNDS, 0, 6, (race, what) -> race.count(what));
    }

    private static void countNothingThere() {
        CHECK.sentence("0 the tick, 1 boats, 2 weirs, 3 boats that are in, 4 fouls of all, added");
        CoracleRace race = new CoracleRace();
        CHECK.dueCounts("nothing", race, 0, 0, 0, 0, 0);
        race.go(200);
        CHECK.dueCounts("nothing but ticks", race, 200, 0, 0, 0, 0);
    }

    private static void countAsManyAsMayBe() {
        CHECK.sentence("0 the tick, 1 boats, 2 weirs, 3 boats that are in, 4 fouls of all, added");
        CoracleRace race = Races.withAllIn();
        for (int i = 0; i < Races.MOST_WEIRS; i++) {
            race.weir(1 + i, 0);
        }
        Check.answer(() -> race.weir(100, 0));
        Check.answer(() -> race.launch(0, 1));
        CHECK.dueCounts("six of each", race, 30, 6, 6, 6, 0, -1, 0);
    }

    private static void countIn() {
        CHECK.sentence("3 boats that are in");
        CoracleRace race = Races.at(199, 8);
        CHECK.due("at 199", race.count(3), 0);
        race.setWater(2, 1);
        race.go(1);
        CHECK.due("at 200", race.count(3), 1);
        race.launch(0, 1);
        CHECK.due("another one launched", race.count(3), 1);
    }

    private static void countFoulsOfAll() {
        CHECK.sentence("4 fouls of all, added");
        CoracleRace race = Races.withBoats(3);
        race.tar(0);
        race.tar(2);
        race.tar(2);
        CHECK.due("three boats", race.count(4), 12);
        race.go(200);
        CHECK.due("all are in", race.count(3), 3);
        CHECK.due("those that are in too", race.count(4), 12);
    }

    private static void countLeaderOfSeveral() {
        CHECK.sentence("the boat that leads: of those on their way the one with the greatest place,"
            + " of several the one with the smallest number");
        CoracleRace race = Races.still();
        for (int i = 0; i < Races.MOST_BOATS; i++) {
            race.launch(2, i < 3 ? 4 : 5);
        }
        CHECK.due("all at 0", race.count(5), 0);
        race.go(1);
        CHECK.due("3, 4 and 5 are ahead", race.count(5), 3);
        race.paddle(3, 1, 0);
        race.paddle(4, 1, 0);
        race.go(1);
        CHECK.due("the last one alone", race.count(5), 5);
        race.paddle(5, 1, 0);
        race.go(1);
        CHECK.due("0, 1 and 2 are ahead", race.count(5), 0);
    }

    private static void countLeaderNone() {
        CHECK.sentence("-1 if none is on its way");
        CHECK.due("no boats", new CoracleRace().count(5), -1);
        CHECK.due("one at 0", Races.withBoats(1).count(5), 0);
        CHECK.due("one in, one at 0", Races.withOneIn().count(5), 1);
        CoracleRace race = Races.withAllIn();
        CHECK.due("all in", race.count(5), -1);
        CoracleRace last = Races.withOneIn();
        last.paddle(1, 1, 3);
        last.setWater(1, 6);
        last.go(200);
        CHECK.due("the last one has come in", last.count(5), -1);
    }

    /** Strength 8 in still water takes 26 ticks; the boats 1 and 3 have 4 fouls, so their time is 30. */
    private static void countWinnerOfSeveral() {
        CHECK.sentence("the winner: of those that are in the one with the least time,"
            + " of several the one with the smallest number");
        CoracleRace race = Races.still();
        for (int i = 0; i < 4; i++) {
            race.launch(2, 8);
            race.tar(i);
        }
        race.tar(0);
        race.tar(2);
        race.go(26);
        CHECK.due("all are in", race.count(3), 4);
        CHECK.due("1 and 3 have the least time", race.count(6), 1);
        race.launch(2, 8);
        race.setWater(2, 6);
        race.go(30);
        CHECK.due("a later one with a greater time", race.count(6), 1);
    }

    private static void countWinnerNone() {
        CHECK.sentence("-1 if none is in");
        CHECK.due("no boats", new CoracleRace().count(6), -1);
        CHECK.due("one at 0", Races.withBoats(1).count(6), -1);
        CoracleRace race = Races.at(199, 8);
        CHECK.due("one at 199", race.count(6), -1);
        race.launch(0, 1);
        race.setWater(2, 1);
        race.go(1);
        CHECK.due("one at 200", race.count(6), 0);
    }

    // ---- promise 9

    private static void nextPlace() {
        CHECK.sentence("Throws IllegalArgumentException if place is not 0 to 200");
        CHECK.range("next(place) without weirs", () -> Races.withBoats(2), ILLEGAL_ARGUMENT, 0, 200,
            (race, place) -> race.next(place));
        CHECK.range("next(place) of six weirs", () -> Races.withWeirs(6), ILLEGAL_ARGUMENT, 0, 200,
            (race, place) -> race.next(place));
    }

    private static void nextBeyond() {
        CHECK.sentence("Returns the place of the next weir beyond it");
        CoracleRace race = new CoracleRace();
        race.weir(1, 0);
        CHECK.due("one short of it", race.next(0), 1);
        CHECK.due("at it", race.next(1), -1);
        race.weir(2, 0);
        CHECK.due("at it, with one more just beyond", race.next(1), 2);
        race.weir(199, 0);
        CHECK.due("one short of the last place", race.next(198), 199);
        CHECK.due("the first of two", race.next(0), 1);
    }

    private static void nextNone() {
        CHECK.sentence("-1 if there is none");
        CoracleRace race = new CoracleRace();
        CHECK.due("no weirs, from 0", race.next(0), -1);
        CHECK.due("no weirs, from 200", race.next(200), -1);
        race.weir(199, 0);
        CHECK.due("at the last", race.next(199), -1);
        CHECK.due("at the end", race.next(200), -1);
    }

    private static void nextOfSixWeirs() {
        CHECK.sentence("Returns the place of the next weir beyond it; -1 if there is none.");
        int[] places = {70, 199, 1, 69, 120, 71};
        CoracleRace race = new CoracleRace();
        for (int i = 0; i < places.length; i++) {
            race.weir(places[i], i % Races.LANES);
        }
        for (int place = 0; place <= 200; place++) {
            int next = place < 1 ? 1 : place < 69 ? 69 : place < 70 ? 70 : place < 71 ? 71
                : place < 120 ? 120 : place < 199 ? 199 : -1;
            CHECK.due("next(" + place + ")", race.next(place), next);
        }
    }

    // ---- promise 10

    private static void rankBoat() {
        CHECK.sentence("Throws IndexOutOfBoundsException if there is no such boat");
        for (int there : BOATS_THERE) {
            CHECK.range("rank(boat) of " + there, () -> Races.withBoats(there), OUT_OF_BOUNDS, 0, there - 1,
                (race, boat) -> race.rank(boat));
        }
    }

    private static void rankAlone() {
        CHECK.sentence("1 and how many other boats are ahead of it");
        CHECK.due("alone at 0", Races.withBoats(1).rank(0), 1);
        CoracleRace race = Races.at(199, 8);
        CHECK.due("alone at 199", race.rank(0), 1);
        race.setWater(2, 1);
        race.go(1);
        CHECK.due("alone, in", race.rank(0), 1);
    }

    private static void rankLast() {
        CHECK.sentence("1 and how many other boats are ahead of it");
        CoracleRace race = Races.still();
        for (int i = 0; i < Races.MOST_BOATS; i++) {
            race.launch(2, 3 + i);
        }
        CHECK.dueRanks("all at 0", race, 1, 1, 1, 1, 1, 1);
        race.go(1);
        CHECK.dueRanks("each at a place of its own", race, 6, 5, 4, 3, 2, 1);
    }

    private static void rankInAheadOfAllThatAreNot() {
        CHECK.sentence("one that is in is ahead of all that are not");
        CoracleRace race = Races.still();
        race.launch(2, 8);
        race.launch(2, 7);
        race.launch(1, 1);
        for (int i = 0; i < 100; i++) {
            race.tar(0);
        }
        race.go(26);
        CHECK.due("in with a time of", race.boat(0, 6), 426);
        CHECK.due("on its way at", race.boat(1, 0), 7 * 21 + 6 * 5);
        CHECK.dueRanks("one is in", race, 1, 2, 3);
        race.setWater(2, 6);
        race.go(10);
        CHECK.dueRanks("two are in, the other one with a time of 30 or so", race, 2, 1, 3);
    }

    private static void rankInWithAGreaterTime() {
        CHECK.sentence("and of those that are in with a greater time");
        CoracleRace race = Races.still();
        for (int i = 0; i < Races.MOST_BOATS; i++) {
            race.launch(2, 8);
        }
        race.tar(1);
        race.tar(2);
        race.tar(2);
        race.tar(4);
        race.go(26);
        CHECK.due("all are in", race.count(3), 6);
        CHECK.dueRanks("with the same time none is ahead", race, 1, 4, 6, 1, 4, 1);
    }

    private static void rankOnTheirWay() {
        CHECK.sentence("one on its way of those on their way with a lesser place");
        CoracleRace race = Races.withOneIn();
        race.launch(3, 2);
        race.launch(3, 2);
        CHECK.dueRanks("the same place, behind the one that is in", race, 1, 2, 2, 2);
        race.paddle(1, 1, 3);
        race.go(1);
        CHECK.dueRanks("strength 5, less 1, ahead of strength 2", race, 1, 2, 3, 3);
        race.paddle(1, 1, 0);
        race.paddle(2, 1, 0);
        race.go(1);
        CHECK.dueRanks("the same place again, of two", race, 1, 2, 4, 2);
    }
}
