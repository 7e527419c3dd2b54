/** Promises 7 to 10: boat, count, next, rank. */
public final class WhatIsThereTest {
    private static final Check CHECK = new Check();

    public static void main(String[] args) {
        boatAnswers();
        countAnswers();
        countLeader();
        countWinner();
        nextAnswers();
        rankOnTheWay();
        rankWhenIn();
        CHECK.end();
    }

    /** Boat 1 heads by 2 at the bank, and is stopped by the weir at 8 in the tick 2; boat 0 has drifted into its gap. */
    private static void boatAnswers() {
        CoracleRace race = new CoracleRace();
        race.launch(1, 8);
        race.launch(4, 8);
        race.paddle(0, 1, 1);
        race.paddle(1, 1, 1);
        race.weir(8, 2);
        race.go(3);
        CHECK.dueBoat("left", race, 0, 5 + 5 + 3, 3, 3, 1, 0, 0, -1, 0, 0);
        CHECK.dueBoat("at the bank", race, 1, 8, 4, 0, 6, 6, 0, -1, 0, 1);
        race.go(2);
        CHECK.dueBoat("left, spun", race, 0, 13 + 1 + 1, 4, 0, 2, 0, 0, -1, 1, 0);
    }

    private static void countAnswers() {
        CoracleRace race = new CoracleRace();
        race.launch(2, 8);
        race.launch(0, 1);
        race.launch(0, 1);
        race.weir(199, 2);
        race.weir(198, 2);
        race.tar(0);
        race.tar(1);
        CHECK.dueCounts("three boats", race, 0, 3, 2, 0, 8, 0, -1);
        race.go(20);
        CHECK.dueCounts("one is in", race, 20, 3, 2, 1, 8, 1, 0);
    }

    private static void countLeader() {
        CoracleRace race = new CoracleRace();
        race.launch(0, 1);
        race.launch(2, 5);
        race.launch(2, 5);
        CHECK.due("all at 0: the smallest number", race.count(5), 0);
        race.go(1);
        CHECK.due("the greatest place, the smaller number", race.count(5), 1);
        race.paddle(1, 1, 0);
        race.go(1);
        CHECK.due("the greatest place", race.count(5), 2);
        race.go(100);
        CHECK.due("all but the first are in", race.count(3), 2);
        CHECK.due("of those on their way", race.count(5), 0);
        race.go(200);
        CHECK.due("none is on its way", race.count(5), -1);
    }

    /** Boats 1 and 2 come in first, by fouls boat 1 is behind boat 2, and boat 0 comes in later with no foul. */
    private static void countWinner() {
        CoracleRace race = new CoracleRace();
        race.launch(2, 7);
        race.launch(2, 8);
        race.launch(2, 8);
        CHECK.due("none is in", race.count(6), -1);
        race.tar(1);
        race.tar(1);
        race.tar(2);
        race.tar(2);
        race.go(19);
        CHECK.dueCounts("the two are in", race, 19, 3, 0, 2, 16, 0, 1);
        race.go(1);
        CHECK.due("all are in", race.count(3), 3);
        CHECK.due("its time", race.boat(0, 6), 20);
        CHECK.due("the other's time", race.boat(1, 6), 27);
        CHECK.due("the least time wins, not the first to come in", race.count(6), 0);

        CoracleRace later = new CoracleRace();
        later.launch(2, 8);
        later.launch(2, 8);
        later.launch(2, 8);
        later.tar(0);
        later.go(30);
        CHECK.due("of several the smallest number", later.count(6), 1);
    }

    private static void nextAnswers() {
        CoracleRace race = new CoracleRace();
        CHECK.due("next(200) without weirs", race.next(200), -1);
        race.weir(100, 0);
        race.weir(199, 0);
        race.weir(1, 0);
        race.weir(50, 0);
        CHECK.due("next(0)", race.next(0), 1);
        CHECK.due("next(1)", race.next(1), 50);
        CHECK.due("next(49)", race.next(49), 50);
        CHECK.due("next(50)", race.next(50), 100);
        CHECK.due("next(100)", race.next(100), 199);
        CHECK.due("next(198)", race.next(198), 199);
        CHECK.due("next(199)", race.next(199), -1);
        CHECK.due("next(200)", race.next(200), -1);
    }

    private static void rankOnTheWay() {
        CoracleRace race = new CoracleRace();
        race.launch(0, 1);
        race.launch(2, 5);
        race.launch(2, 5);
        race.launch(0, 2);
        CHECK.dueRanks("all at 0", race, 1, 1, 1, 1);
        race.go(1);
        CHECK.dueRanks("apart", race, 4, 1, 1, 3);
    }

    private static void rankWhenIn() {
        CoracleRace race = new CoracleRace();
        race.launch(2, 8);
        race.launch(2, 8);
        race.launch(0, 1);
        race.launch(2, 7);
        race.launch(2, 8);
        race.tar(0);
        race.tar(0);
        race.tar(4);
        race.tar(4);
        race.go(19);
        CHECK.due("three are in", race.count(3), 3);
        CHECK.dueRanks("in ahead of the others", race, 2, 1, 5, 4, 2);
        race.go(1);
        CHECK.due("four are in", race.count(3), 4);
        CHECK.dueRanks("by time, not by the tick", race, 3, 1, 5, 2, 3);
    }
}
