/** Promises 1 to 6: a new object, setWater, weir, launch, paddle, tar. */
public final class RiverAndBoatsTest {
    private static final Check CHECK = new Check();

    public static void main(String[] args) {
        newObject();
        objectsAreApart();
        setWaterAnswers();
        setWaterCarries();
        weirAnswers();
        launchAnswers();
        launchLate();
        paddleAnswers();
        paddleOrder();
        paddleWithLeadingRests();
        tarAnswers();
        CHECK.end();
    }

    private static void newObject() {
        CoracleRace race = new CoracleRace();
        CHECK.dueCounts("new", race, 0, 0, 0, 0, 0, -1, -1);
        CHECK.due("new: next(0)", race.next(0), -1);
        CHECK.dueDouble("new: mean()", race.mean(), 0);
        int[] water = {1, 2, 3, 2, 1};
        for (int lane = 0; lane < 5; lane++) {
            CHECK.due("new: setWater(" + lane + ", 0)", race.setWater(lane, 0), water[lane]);
        }
    }

    private static void objectsAreApart() {
        CoracleRace one = new CoracleRace();
        CoracleRace other = new CoracleRace();
        one.launch(0, 8);
        one.weir(5, 0);
        one.setWater(0, 6);
        one.go(1);
        CHECK.dueCounts("other object", other, 0, 0, 0, 0, 0, -1, -1);
        CHECK.due("other object: setWater", other.setWater(0, 1), 1);
    }

    private static void setWaterAnswers() {
        CoracleRace race = new CoracleRace();
        CHECK.due("setWater(0, 6)", race.setWater(0, 6), 1);
        CHECK.due("setWater(0, 0)", race.setWater(0, 0), 6);
        CHECK.due("setWater(0, 0) again", race.setWater(0, 0), 0);
        CHECK.due("setWater(4, 5)", race.setWater(4, 5), 1);
        CHECK.due("setWater(2, 5)", race.setWater(2, 5), 3);
    }

    private static void setWaterCarries() {
        CoracleRace race = new CoracleRace();
        race.launch(3, 1);
        race.paddle(0, 1, 0);
        race.go(1);
        CHECK.due("carried by 2", race.boat(0, 0), 2);
        race.setWater(3, 6);
        race.go(1);
        CHECK.due("carried by 6", race.boat(0, 0), 8);
        race.setWater(3, 0);
        race.setWater(2, 6);
        race.go(1);
        CHECK.due("carried by 0", race.boat(0, 0), 8);
    }

    private static void weirAnswers() {
        CoracleRace race = new CoracleRace();
        CHECK.due("weir(199, 0)", race.weir(199, 0), 1);
        CHECK.due("weir(1, 4)", race.weir(1, 4), 2);
        CHECK.due("weir(2, 4)", race.weir(2, 4), 3);
        CHECK.due("weirs", race.count(2), 3);
    }

    private static void launchAnswers() {
        CoracleRace race = new CoracleRace();
        CHECK.due("launch(4, 1)", race.launch(4, 1), 0);
        CHECK.due("launch(0, 8)", race.launch(0, 8), 1);
        CHECK.dueBoat("launched", race, 0, 0, 4, 0, 0, 0, 0, -1, 0, 0);
        CHECK.dueBoat("launched", race, 1, 0, 0, 0, 0, 0, 0, -1, 0, 0);
        race.go(1);
        CHECK.due("both with strength 1", race.boat(0, 0), 2);
        CHECK.due("both with strength 8", race.boat(1, 0), 9);
        CHECK.due("boats", race.count(1), 2);
    }

    private static void launchLate() {
        CoracleRace race = new CoracleRace();
        race.go(5);
        race.launch(2, 4);
        CHECK.dueBoat("late", race, 0, 0, 2, 0, 0, 0, 0, -1, 0, 0);
        race.go(3);
        CHECK.dueBoat("late, 3 ticks on", race, 0, 21, 2, 0, 0, 0, 0, -1, 0, 0);
        race.go(1);
        CHECK.due("soaked in the tick 8", race.boat(0, 3), 1);
    }

    private static void paddleAnswers() {
        CoracleRace race = new CoracleRace();
        race.launch(2, 4);
        race.launch(2, 4);
        CHECK.due("paddle(0, 6, 333333)", race.paddle(0, 6, 333333), 1);
        CHECK.due("paddle(0, 3, 0)", race.paddle(0, 3, 0), 6);
        CHECK.due("paddle(0, 1, 3)", race.paddle(0, 1, 3), 3);
        CHECK.due("paddle(1, 2, 33)", race.paddle(1, 2, 33), 1);
    }

    /** The first stroke is the highest digit; the tick's remainder picks the stroke. */
    private static void paddleOrder() {
        CoracleRace race = new CoracleRace();
        race.launch(0, 8);
        race.setWater(0, 0);
        race.paddle(0, 3, 301);
        race.go(1);
        CHECK.due("tick 0: both", race.boat(0, 0), 8);
        race.go(1);
        CHECK.due("tick 1: rest", race.boat(0, 0), 8);
        race.go(1);
        CHECK.due("tick 2: left", race.boat(0, 2), 1);
        CHECK.due("tick 2: left's going", race.boat(0, 0), 11);
        race.go(1);
        CHECK.due("tick 3: both", race.boat(0, 0), 17);
        race.paddle(0, 2, 20);
        race.go(1);
        CHECK.due("tick 4: right, by the tick and not by the telling", race.boat(0, 2), 0);
    }

    private static void paddleWithLeadingRests() {
        CoracleRace race = new CoracleRace();
        race.launch(0, 8);
        race.setWater(0, 0);
        race.paddle(0, 6, 3);
        race.go(5);
        CHECK.due("five rests", race.boat(0, 0), 0);
        race.go(1);
        CHECK.due("both in the sixth tick", race.boat(0, 0), 8);
        race.paddle(0, 1, 0);
        race.paddle(0, 2, 30);
        race.go(2);
        CHECK.due("both in the tick 6, rest in 7", race.boat(0, 0), 16);
    }

    private static void tarAnswers() {
        CoracleRace race = new CoracleRace();
        race.launch(0, 1);
        race.launch(0, 1);
        race.go(9);
        CHECK.due("tar(0)", race.tar(0), 3);
        CHECK.due("soaked, tarred", race.boat(0, 3), 0);
        CHECK.due("fouls, tarred", race.boat(0, 4), 4);
        CHECK.due("soaked, not tarred", race.boat(1, 3), 3);
        CHECK.due("fouls, not tarred", race.boat(1, 4), 0);
        CHECK.due("tar(0) again", race.tar(0), 0);
        CHECK.due("fouls, tarred twice", race.boat(0, 4), 8);
        CHECK.due("tar takes no tick", race.count(0), 9);
    }
}
