/** The boundary cases of promises 1 to 6, sentence by sentence: a new object, setWater, weir, launch, paddle, tar. */
public final class RiverAndBoatsEdgesTest {
    private static final Class<IndexOutOfBoundsException> OUT_OF_BOUNDS = IndexOutOfBoundsException.class;
    private static final Class<IllegalArgumentException> ILLEGAL_ARGUMENT = IllegalArgumentException.class;
    private static final Check CHECK = new Check();

    public static void main(String[] args) {
        newObjectTellsNothing();
        newObjectRefusesBoats();
        setWaterLane();
        setWaterWater();
        setWaterBothWrong();
        setWaterReturnsBefore();
        setWaterFromNowOn();
        weirPlace();
        weirGap();
        weirReturnsHowMany();
        weirSeventh();
        weirAtThisPlace();
        weirWithSeveralWrong();
        weirTooLate();
        launchLane();
        launchStrength();
        launchReturnsItsNumber();
        launchSeventh();
        launchWithSeveralWrong();
        launchTooLate();
        paddleBoat();
        paddleLength();
        paddleStrokesOfEachLength();
        paddleDigitOfEachPlace();
        paddleEveryNumber();
        paddleWithSeveralWrong();
        paddleReturnsBefore();
        paddleOfBoatThatIsIn();
        tarBoat();
        tarWhenIn();
        tarReturns();
        tarFouls();
        CHECK.end();
    }

    // ---- promise 1

    private static void newObjectTellsNothing() {
        CHECK.sentence("Creates a river without weirs and boats, at the tick 0.");
        CoracleRace race = new CoracleRace();
        CHECK.dueCounts("new", race, 0, 0, 0, 0, 0, -1, -1);
        for (int place = 0; place <= 200; place++) {
            CHECK.due("new: next(" + place + ")", race.next(place), -1);
        }
        int[] foreseen = {0, 0, -1, -1};
        for (int what = 3; what <= 6; what++) {
            CHECK.due("new: foresee(1, " + what + ")", race.foresee(1, what), foreseen[what - 3]);
        }
        CHECK.dueDouble("new: mean()", race.mean(), 0);
        CHECK.due("new: go(1)", race.go(1), 0);
        CHECK.due("new: the tick 0 has gone by", race.count(0), 1);
    }

    private static void newObjectRefusesBoats() {
        CHECK.sentence("Creates a river without weirs and boats, at the tick 0.");
        CHECK.outOfBounds("paddle(0, 1, 3)", Races::empty, race -> race.paddle(0, 1, 3));
        CHECK.outOfBounds("tar(0)", Races::empty, race -> race.tar(0));
        CHECK.outOfBounds("boat(0, 0)", Races::empty, race -> race.boat(0, 0));
        CHECK.outOfBounds("rank(0)", Races::empty, race -> race.rank(0));
        CHECK.outOfBounds("arrives(0)", Races::empty, race -> race.arrives(0));
        CHECK.outOfBounds("advise(0, 1)", Races::empty, race -> race.advise(0, 1));
    }

    // ---- promise 2

    private static void setWaterLane() {
        CHECK.sentence("Throws IndexOutOfBoundsException if lane is not 0 to 4");
        CHECK.range("setWater(lane, 5)", Races::withOneIn, OUT_OF_BOUNDS, 0, 4, (race, lane) -> race.setWater(lane, 5));
    }

    private static void setWaterWater() {
        CHECK.sentence("Throws IllegalArgumentException if water is not 0 to 6");
        for (int i = 0; i < Races.LANES; i++) {
            int lane = i;
            CHECK.range("setWater(" + lane + ", water)", () -> Races.withBoats(5), ILLEGAL_ARGUMENT, 0, 6,
                (race, water) -> race.setWater(lane, water));
        }
    }

    private static void setWaterBothWrong() {
        CHECK.sentence("If several exceptions apply, the one that is named first is thrown.");
        CHECK.outOfBounds("setWater(-1, -1)", Races::withOneIn, race -> race.setWater(-1, -1));
        CHECK.outOfBounds("setWater(-1, 7)", Races::withOneIn, race -> race.setWater(-1, 7));
        CHECK.outOfBounds("setWater(5, -1)", Races::withOneIn, race -> race.setWater(5, -1));
        CHECK.outOfBounds("setWater(5, 7)", Races::withOneIn, race -> race.setWater(5, 7));
    }

    private static void setWaterReturnsBefore() {
        CHECK.sentence("Returns its water before.");
        int[] atFirst = {1, 2, 3, 2, 1};
        CoracleRace race = new CoracleRace();
        for (int i = 0; i < Races.LANES; i++) {
            int lane = i;
            CHECK.due("the first setWater(" + lane + ", 0)", race.setWater(lane, 0), atFirst[lane]);
            for (int water = 1; water <= 6; water++) {
                CHECK.due("setWater(" + lane + ", " + water + ")", race.setWater(lane, water), water - 1);
            }
            CHECK.due("setWater(" + lane + ", 6) again", race.setWater(lane, 6), 6);
            Check.answer(() -> race.setWater(lane, 7));
            CHECK.due("setWater(" + lane + ", 6) behind a refused one", race.setWater(lane, 6), 6);
        }
    }

    private static void setWaterFromNowOn() {
        CHECK.sentence("its water from now on");
        CoracleRace race = Races.withBoat(4, 1, 1, 0);
        race.go(1);
        CHECK.due("ahead of it", race.boat(0, 0), 1);
        race.setWater(4, 6);
        CHECK.due("without a tick", race.boat(0, 0), 1);
        race.go(1);
        CHECK.due("with the most", race.boat(0, 0), 7);
        race.setWater(4, 0);
        race.go(1);
        CHECK.due("with the least", race.boat(0, 0), 7);
    }

    // ---- promise 3

    private static void weirPlace() {
        CHECK.sentence("Throws IllegalArgumentException if place is not 1 to 199");
        CHECK.range("weir(place, 0)", () -> Races.withBoats(2), ILLEGAL_ARGUMENT, 1, 199,
            (race, place) -> race.weir(place, 0));
    }

    private static void weirGap() {
        CHECK.sentence("or gap is not 0 to 4");
        CHECK.range("weir(1, gap)", () -> Races.withBoats(2), ILLEGAL_ARGUMENT, 0, 4, (race, gap) -> race.weir(1, gap));
        CHECK.range("weir(199, gap)", () -> Races.withWeirs(5), ILLEGAL_ARGUMENT, 0, 4,
            (race, gap) -> race.weir(199, gap));
    }

    private static void weirReturnsHowMany() {
        CHECK.sentence("Returns how many weirs there are then.");
        CoracleRace race = new CoracleRace();
        for (int weirs = 1; weirs <= Races.MOST_WEIRS; weirs++) {
            CHECK.due("weir " + weirs, race.weir(200 - weirs, weirs % Races.LANES), weirs);
            Check.answer(() -> race.weir(199, 0));
            CHECK.due("weirs behind a refused one", race.count(2), weirs);
        }
    }

    private static void weirSeventh() {
        CHECK.sentence("Throws IllegalStateException if there are 6");
        CHECK.due("the sixth", Races.withWeirs(5).weir(199, 4), 6);
        CHECK.illegalState("a seventh at 1", () -> Races.withWeirs(6), race -> race.weir(1, 0));
        CHECK.illegalState("a seventh at 199", () -> Races.withWeirs(6), race -> race.weir(199, 4));
    }

    private static void weirAtThisPlace() {
        CHECK.sentence("Throws IllegalStateException if there are 6, or one at this place");
        for (int i = 1; i <= 5; i++) {
            int place = 10 * i;
            for (int g = 0; g < Races.LANES; g++) {
                int gap = g;
                CHECK.illegalState("weir(" + place + ", " + gap + ") again", () -> Races.withWeirs(5),
                    race -> race.weir(place, gap));
            }
            CHECK.due("just ahead of the one at " + place, Races.withWeirs(5).weir(place - 1, 0), 6);
            CHECK.due("just beyond the one at " + place, Races.withWeirs(5).weir(place + 1, 0), 6);
        }
        CHECK.due("a first one", Races.withWeirs(0).weir(10, 0), 1);
    }

    private static void weirWithSeveralWrong() {
        CHECK.sentence("If several exceptions apply, the one that is named first is thrown.");
        CHECK.illegalArgument("place and gap", () -> Races.withWeirs(2), race -> race.weir(0, 5));
        CHECK.illegalArgument("place 0 of a seventh", () -> Races.withWeirs(6), race -> race.weir(0, 0));
        CHECK.illegalArgument("place 200 of a seventh", () -> Races.withWeirs(6), race -> race.weir(200, 0));
        CHECK.illegalArgument("gap -1 of a seventh", () -> Races.withWeirs(6), race -> race.weir(70, -1));
        CHECK.illegalArgument("gap 5 of a seventh", () -> Races.withWeirs(6), race -> race.weir(70, 5));
        CHECK.illegalArgument("gap 5 where one is", () -> Races.withWeirs(2), race -> race.weir(10, 5));
        CHECK.illegalArgument("gap -1 where one is", () -> Races.withWeirs(2), race -> race.weir(20, -1));
        CHECK.illegalState("a seventh where one is", () -> Races.withWeirs(6), race -> race.weir(60, 0));
    }

    /** A boat is not stopped by a weir that is told when the boat is there already, or beyond. */
    private static void weirTooLate() {
        CHECK.sentence("that is beyond where it was");
        CoracleRace race = Races.at(100, 8);
        race.weir(100, 0);
        race.weir(99, 0);
        race.paddle(0, 1, 3);
        race.go(1);
        CHECK.due("goes on", race.boat(0, 0), 108);
        CHECK.due("stopped", race.boat(0, 8), 0);
    }

    // ---- promise 4

    private static void launchLane() {
        CHECK.sentence("Throws IllegalArgumentException if lane is not 0 to 4");
        CHECK.range("launch(lane, 4)", () -> Races.withWeirs(1), ILLEGAL_ARGUMENT, 0, 4,
            (race, lane) -> race.launch(lane, 4));
    }

    private static void launchStrength() {
        CHECK.sentence("or strength is not 1 to 8");
        CHECK.range("launch(0, strength)", () -> Races.withWeirs(1), ILLEGAL_ARGUMENT, 1, 8,
            (race, strength) -> race.launch(0, strength));
        CHECK.range("the first launch(4, strength)", Races::empty, ILLEGAL_ARGUMENT, 1, 8,
            (race, strength) -> race.launch(4, strength));
    }

    private static void launchReturnsItsNumber() {
        CHECK.sentence("Returns its number.");
        CoracleRace race = Races.still();
        for (int boat = 0; boat < Races.MOST_BOATS; boat++) {
            Check.answer(() -> race.launch(5, 9));
            CHECK.due("launch " + boat, race.launch(boat % Races.LANES, boat + 1), boat);
        }
        race.go(1);
        for (int boat = 0; boat < Races.MOST_BOATS; boat++) {
            CHECK.dueBoat("its own lane and strength", race, boat, boat + 1, boat % Races.LANES);
        }
    }

    private static void launchSeventh() {
        CHECK.sentence("Throws IllegalStateException if there are 6");
        CHECK.due("the sixth", Races.withBoats(5).launch(4, 8), 5);
        CHECK.illegalState("a seventh of the least", () -> Races.withBoats(6), race -> race.launch(0, 1));
        CHECK.illegalState("a seventh of the most", () -> Races.withBoats(6), race -> race.launch(4, 8));
        CHECK.illegalState("a seventh when all are in", Races::withAllIn, race -> race.launch(0, 1));
    }

    private static void launchWithSeveralWrong() {
        CHECK.sentence("If several exceptions apply, the one that is named first is thrown.");
        CHECK.illegalArgument("lane and strength", () -> Races.withBoats(2), race -> race.launch(5, 0));
        CHECK.illegalArgument("lane -1 of a seventh", () -> Races.withBoats(6), race -> race.launch(-1, 1));
        CHECK.illegalArgument("lane 5 of a seventh", () -> Races.withBoats(6), race -> race.launch(5, 1));
        CHECK.illegalArgument("strength 0 of a seventh", () -> Races.withBoats(6), race -> race.launch(0, 0));
        CHECK.illegalArgument("strength 9 of a seventh", () -> Races.withBoats(6), race -> race.launch(0, 9));
    }

    /** Each boat begins anew, however late it comes, and beside boats that are in. */
    private static void launchTooLate() {
        CHECK.sentence("is at a place, 0 (at first) to 200");
        CoracleRace race = Races.withOneIn();
        CHECK.due("launch", race.launch(4, 8), 2);
        CHECK.dueBoat("at first", race, 2, 0, 4, 0, 0, 0, 0, -1, 0, 0);
        CHECK.due("rank", race.rank(2), 2);
        CHECK.due("one stroke at first", race.paddle(2, 1, 0), 1);
    }

    // ---- promise 5

    private static void paddleBoat() {
        CHECK.sentence("Throws IndexOutOfBoundsException if there is no such boat");
        int[] boats = {0, 1, Races.MOST_BOATS};
        for (int there : boats) {
            CHECK.range("paddle(boat, 2, 12) of " + there, () -> Races.withBoats(there), OUT_OF_BOUNDS, 0, there - 1,
                (race, boat) -> race.paddle(boat, 2, 12));
        }
    }

    private static void paddleLength() {
        CHECK.sentence("Throws IllegalArgumentException if length is not 1 to 6");
        CHECK.range("paddle(0, length, 0)", Races::withOneIn, ILLEGAL_ARGUMENT, 1, 6,
            (race, length) -> race.paddle(0, length, 0));
        CHECK.range("paddle(1, length, 3)", () -> Races.withBoats(2), ILLEGAL_ARGUMENT, 1, 6,
            (race, length) -> race.paddle(1, length, 3));
        CHECK.illegalArgument("seven digits of length 7", () -> Races.withBoats(2),
            race -> race.paddle(0, 7, 1111111));
    }

    private static void paddleStrokesOfEachLength() {
        CHECK.sentence("strokes is not a number of at most length digits");
        int most = 0;
        int firstOfMoreDigits = 1;
        for (int digits = 1; digits <= 6; digits++) {
            int length = digits;
            int allThree = most * 10 + 3;
            int oneDigitMore = firstOfMoreDigits * 10;
            String what = "paddle(0, " + length + ", strokes) with ";
            CHECK.due(what + "0", Races.withBoats(1).paddle(0, length, 0), 1);
            CHECK.due(what + allThree, Races.withBoats(1).paddle(0, length, allThree), 1);
            CHECK.illegalArgument(what + oneDigitMore, () -> Races.withBoats(1),
                race -> race.paddle(0, length, oneDigitMore));
            CHECK.illegalArgument(what + (allThree + 1), () -> Races.withBoats(1),
                race -> race.paddle(0, length, allThree + 1));
            CHECK.illegalArgument(what + "-1", () -> Races.withBoats(1), race -> race.paddle(0, length, -1));
            CHECK.illegalArgument(what + -oneDigitMore, () -> Races.withBoats(1),
                race -> race.paddle(0, length, -oneDigitMore));
            CHECK.illegalArgument(what + "the least int", () -> Races.withBoats(1),
                race -> race.paddle(0, length, Integer.MIN_VALUE));
            CHECK.illegalArgument(what + "the greatest int", () -> Races.withBoats(1),
                race -> race.paddle(0, length, Integer.MAX_VALUE));
            most = allThree;
            firstOfMoreDigits = oneDigitMore;
        }
    }

    private static void paddleDigitOfEachPlace() {
        CHECK.sentence("each 0 to 3");
        int unit = 1;
        for (int place = 0; place < 6; place++) {
            for (int digit = 0; digit <= 9; digit++) {
                int strokes = digit * unit;
                String what = "paddle(0, 6, " + strokes + ")";
                if (digit <= 3) {
                    CHECK.due(what, Races.withBoats(1).paddle(0, 6, strokes), 1);
                } else {
                    CHECK.illegalArgument(what, () -> Races.withBoats(1), race -> race.paddle(0, 6, strokes));
                }
            }
            unit *= 10;
        }
    }

    private static void paddleEveryNumber() {
        CHECK.sentence("as the digits of a number, the first one as the highest digit of length digits");
        CoracleRace[] races = {Races.withBoats(1), Races.withBoats(1), Races.withBoats(1)};
        for (int strokes = -40; strokes <= 10010; strokes++) {
            for (int length = 1; length <= 3; length++) {
                boolean right = String.valueOf(strokes).matches("[0-3]{1," + length + "}");
                CoracleRace race = races[length - 1];
                int told = strokes;
                int itsLength = length;
                String answer = Check.answer(() -> race.paddle(0, itsLength, told));
                CHECK.due("paddle(0, " + length + ", " + strokes + ") is taken",
                    answer.equals("throws.IllegalArgumentException") ? 0 : 1, right ? 1 : 0);
            }
        }
    }

    private static void paddleWithSeveralWrong() {
        CHECK.sentence("If several exceptions apply, the one that is named first is thrown.");
        CHECK.outOfBounds("boat and length 0", () -> Races.withBoats(2), race -> race.paddle(2, 0, 0));
        CHECK.outOfBounds("boat and length 7", () -> Races.withBoats(2), race -> race.paddle(-1, 7, 0));
        CHECK.outOfBounds("boat and strokes", () -> Races.withBoats(2), race -> race.paddle(2, 1, 4));
        CHECK.outOfBounds("all three", () -> Races.withBoats(2), race -> race.paddle(-1, 0, -1));
        CHECK.illegalArgument("length and strokes", () -> Races.withBoats(2), race -> race.paddle(1, 0, -1));
    }

    private static void paddleReturnsBefore() {
        CHECK.sentence("Returns how many strokes its pattern had before.");
        CoracleRace race = Races.withBoats(2);
        int before = 1;
        for (int length = 6; length >= 1; length--) {
            CHECK.due("length " + length, race.paddle(0, length, 0), before);
            CHECK.due("length " + length + " again", race.paddle(0, length, 3), length);
            Check.answer(() -> race.paddle(0, 3, 4));
            CHECK.due("behind a refused one", race.paddle(0, length, 3), length);
            before = length;
        }
        CHECK.due("the other boat's", race.paddle(1, 6, 0), 1);
    }

    private static void paddleOfBoatThatIsIn() {
        CHECK.sentence("Throws IndexOutOfBoundsException if there is no such boat");
        CoracleRace race = Races.withOneIn();
        CHECK.due("a boat that is in is there", race.paddle(0, 6, 123012), 1);
        CHECK.due("and has the new pattern", race.paddle(0, 1, 3), 6);
    }

    // ---- promise 6

    private static void tarBoat() {
        CHECK.sentence("Throws IndexOutOfBoundsException if there is no such boat");
        int[] boats = {0, 1, Races.MOST_BOATS};
        for (int there : boats) {
            CHECK.range("tar(boat) of " + there, () -> Races.withBoats(there), OUT_OF_BOUNDS, 0, there - 1,
                (race, boat) -> race.tar(boat));
        }
        CHECK.outOfBounds("tar(6) when all are in", Races::withAllIn, race -> race.tar(6));
    }

    private static void tarWhenIn() {
        CHECK.sentence("Throws IllegalStateException if it is in");
        CoracleRace ahead = Races.at(199, 8);
        CHECK.due("at 199 it is taken", ahead.tar(0), 0);
        CHECK.illegalState("in", Races::withOneIn, race -> race.tar(0));
        CHECK.due("the other one is taken", Races.withOneIn().tar(1), 7);
        for (int i = 0; i < Races.MOST_BOATS; i++) {
            int boat = i;
            CHECK.illegalState("all are in: tar(" + boat + ")", Races::withAllIn, race -> race.tar(boat));
        }
    }

    private static void tarReturns() {
        CHECK.sentence("Returns by how much it was soaked.");
        CHECK.due("a new boat", Races.withBoats(1).tar(0), 0);
        for (int soaked = 1; soaked <= Races.MOST_SOAKED; soaked++) {
            CoracleRace race = Races.soaked(1, soaked);
            CHECK.due("soaked by " + soaked, race.tar(0), soaked);
            CHECK.due("tarred", race.boat(0, 3), 0);
            CHECK.due("at once again", race.tar(0), 0);
        }
    }

    private static void tarFouls() {
        CHECK.sentence("Tars a boat: it is not soaked any more, and has 4 more fouls.");
        CoracleRace race = Races.withBoats(2);
        for (int times = 1; times <= 100; times++) {
            race.tar(0);
            CHECK.due("tarred " + times + " times", race.boat(0, 4), 4 * times);
        }
        CHECK.due("the other one", race.boat(1, 4), 0);
        CHECK.due("no tick goes by", race.count(0), 0);
        race.go(1);
        CHECK.due("soaked anew by the tick 0", race.boat(0, 3), 1);
    }
}
