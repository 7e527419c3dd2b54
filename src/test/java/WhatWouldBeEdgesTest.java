import java.math.BigInteger;
import java.util.ArrayList;
import java.util.List;
import java.util.function.Supplier;

/** The boundary cases of promises 12 to 16, sentence by sentence: arrives, foresee, advise, mean, digest. */
public final class WhatWouldBeEdgesTest {
    private static final Class<IndexOutOfBoundsException> OUT_OF_BOUNDS = IndexOutOfBoundsException.class;
    private static final Class<IllegalArgumentException> ILLEGAL_ARGUMENT = IllegalArgumentException.class;
    private static final int[] BOATS_THERE = {0, 1, Races.MOST_BOATS};
    private static final Check CHECK = new Check();

    public static void main(String[] args) {
        arrivesBoat();
        arrivesWhenIn();
        arrivesInTheNextTick();
        arrivesFromALaterTick();
        arrivesAtMost400();
        arrivesNotByThen();
        arrivesChangesNothing();
        foreseeTicks();
        foreseeWhat();
        foreseeBothWrong();
        foreseeBehindSoManyTicks();
        foreseeFromALaterTick();
        foreseeNone();
        foreseeOfSeveral();
        foreseeChangesNothing();
        adviseBoat();
        adviseTicks();
        adviseWithSeveralWrong();
        adviseInOneTick();
        adviseInSixtyTicks();
        adviseOfSeveralTheLeast();
        adviseForBoatThatIsIn();
        adviseChangesNothing();
        meanOfNone();
        meanOfAll();
        digestStarts();
        digestWrapsAround();
        digestOfAllThatMayBe();
        digestByTheirComing();
        digestOfStrokes();
        CHECK.end();
    }

    // ---- promise 12

    private static void arrivesBoat() {
        CHECK.sentence("Throws IndexOutOfBoundsException if there is no such boat");
        for (int there : BOATS_THERE) {
            CHECK.range("arrives(boat) of " + there, () -> Races.withBoats(there), OUT_OF_BOUNDS, 0, there - 1,
                (race, boat) -> race.arrives(boat));
        }
        CHECK.outOfBounds("arrives(2) beside one that is in", Races::withOneIn, race -> race.arrives(2));
    }

    private static void arrivesWhenIn() {
        CHECK.sentence("0 if it is");
        CoracleRace race = Races.at(199, 8);
        race.setWater(2, 1);
        CHECK.due("at 199", race.arrives(0), 1);
        race.go(1);
        CHECK.due("at 200", race.arrives(0), 0);
        race.go(200);
        CHECK.due("much later", race.arrives(0), 0);
        CHECK.due("the other one, at rest", Races.withOneIn().arrives(1), -1);
    }

    private static void arrivesInTheNextTick() {
        CHECK.sentence("Returns behind how many ticks it is in, if nothing is done");
        CoracleRace race = Races.stillWithBoat(2, 8, 1, 3);
        for (int left = 26; left >= 0; left--) {
            CHECK.due("with " + left + " left", race.arrives(0), left);
            race.go(1);
        }
    }

    /** At 192, a stroke of both in every other tick: in an even one by the first pattern, in an odd one by the second. */
    private static CoracleRace oneStrokeShort(int ticksMore, int pattern) {
        CoracleRace race = Races.at(192, 8);
        CHECK.due("at", race.boat(0, 0), 192);
        CHECK.due("an even tick", race.count(0) % 2, 0);
        for (int i = 0; i < ticksMore; i++) {
            race.go(1);
        }
        race.tar(0);
        race.paddle(0, 2, pattern);
        return race;
    }

    private static void arrivesFromALaterTick() {
        CHECK.sentence("Returns behind how many ticks it is in, if nothing is done");
        for (int ticksMore = 0; ticksMore <= 5; ticksMore++) {
            boolean even = ticksMore % 2 == 0;
            CHECK.due("both, rest, " + ticksMore + " later", oneStrokeShort(ticksMore, 30).arrives(0), even ? 1 : 2);
            CHECK.due("rest, both, " + ticksMore + " later", oneStrokeShort(ticksMore, 3).arrives(0), even ? 2 : 1);
        }
    }

    /**
     * A boat of strength 6 that is soaked by 30, so that a stroke of both brings it by 1, at the tick 120 and at
     * this place (at most 40). Its pattern has the strokes of the ticks 0 and 4 of five; so 160 strokes take 400 ticks.
     */
    private static CoracleRace slowAt(int place) {
        CoracleRace race = Races.stillWithBoat(2, 6, 1, 0);
        race.setWater(2, 1);
        race.go(place);
        race.setWater(2, 0);
        race.go(120 - place);
        race.paddle(0, 5, 30003);
        CHECK.due("at", race.boat(0, 0), place);
        CHECK.due("soaked by", race.boat(0, 3), 30);
        return race;
    }

    private static void arrivesAtMost400() {
        CHECK.sentence("at most 400");
        CHECK.due("161 strokes less 2", slowAt(41).arrives(0), 396);
        CHECK.due("160 strokes", slowAt(40).arrives(0), 400);
        CoracleRace race = slowAt(39);
        race.go(1);
        CHECK.due("one of 161 is done", race.arrives(0), 400);
        race.go(200);
        race.go(199);
        CHECK.due("the last one", race.arrives(0), 1);
        CHECK.due("on its way", race.boat(0, 5), 0);
        CHECK.due("comes in", race.go(1), 1);
        CHECK.due("in", race.arrives(0), 0);
    }

    private static void arrivesNotByThen() {
        CHECK.sentence("-1 if not by then");
        CHECK.due("161 strokes, by 401 ticks", slowAt(39).arrives(0), -1);
        CHECK.due("162 strokes, by 405 ticks", slowAt(38).arrives(0), -1);
        CHECK.due("never", Races.stillWithBoat(2, 8, 1, 0).arrives(0), -1);
        CHECK.due("never, just ahead of 200", Races.at(199, 8).arrives(0), -1);
        CHECK.due("never, soaked too much", Races.stillWithBoat(2, 1, 1, 3).arrives(0), -1);
    }

    private static void changesNothing(String what, Supplier<CoracleRace> made, Check.Call call) {
        CoracleRace asked = made.get();
        CoracleRace quiet = made.get();
        String first = Check.answer(() -> call.on(asked));
        CHECK.dueText(what + ", asked again", Check.answer(() -> call.on(asked)), first);
        CHECK.goesOnAlike("behind " + what, asked, quiet);
    }

    private static void arrivesChangesNothing() {
        CHECK.sentence("(nothing is changed)");
        changesNothing("arrives(1) at rest", Races::withOneIn, race -> race.arrives(1));
        changesNothing("arrives(0) in", Races::withOneIn, race -> race.arrives(0));
        changesNothing("arrives(5)", () -> Races.withBoats(6), race -> race.arrives(5));
        changesNothing("arrives(0) of six weirs", () -> Races.withWeirs(6), race -> race.arrives(0));
        changesNothing("arrives(0) by 400", () -> slowAt(40), race -> race.arrives(0));
    }

    // ---- promise 13

    private static void foreseeTicks() {
        CHECK.sentence("Throws IllegalArgumentException if ticks is not 1 to 200");
        CHECK.range("foresee(ticks, 3)", Races::withOneIn, ILLEGAL_ARGUMENT, 1, 200,
            (race, ticks) -> race.foresee(ticks, 3));
        CHECK.range("foresee(ticks, 6), new", Races::empty, ILLEGAL_ARGUMENT, 1, 200,
            (race, ticks) -> race.foresee(ticks, 6));
    }

    private static void foreseeWhat() {
        CHECK.sentence("Throws IndexOutOfBoundsException if what is not 3 to 6");
        CHECK.range("foresee(1, what)", Races::withOneIn, OUT_OF_BOUNDS, 3, 6, (race, what) -> race.foresee(1, what));
        CHECK.range("foresee(200, what), new", Races::empty, OUT_OF_BOUNDS, 3, 6,
            (race, what) -> race.foresee(200, what));
        for (int i = 0; i <= 2; i++) {
            int what = i;
            CHECK.outOfBounds("foresee(1, " + what + ") that count() has", Races::withOneIn,
                race -> race.foresee(1, what));
        }
    }

    private static void foreseeBothWrong() {
        CHECK.sentence("If several exceptions apply, the one that is named first is thrown.");
        CHECK.illegalArgument("foresee(0, 2)", Races::withOneIn, race -> race.foresee(0, 2));
        CHECK.illegalArgument("foresee(0, 7)", Races::withOneIn, race -> race.foresee(0, 7));
        CHECK.illegalArgument("foresee(201, 2)", Races::withOneIn, race -> race.foresee(201, 2));
        CHECK.illegalArgument("foresee(201, 7)", Races::withOneIn, race -> race.foresee(201, 7));
    }

    /** By water of 1 alone the boat is in behind just 200 ticks. */
    private static void foreseeBehindSoManyTicks() {
        CHECK.sentence("Returns this, behind so many ticks, if nothing is done");
        CoracleRace race = Races.withBoat(0, 1, 1, 0);
        CHECK.due("in behind 199", race.foresee(199, 3), 0);
        CHECK.due("in behind 200", race.foresee(200, 3), 1);
        race.go(1);
        CHECK.due("in behind 198 from 1", race.foresee(198, 3), 0);
        CHECK.due("in behind 199 from 1", race.foresee(199, 3), 1);
        race.go(198);
        CHECK.due("in behind 1 from 199", race.foresee(1, 3), 1);
        CoracleRace far = Races.at(198, 8);
        far.setWater(2, 1);
        CHECK.due("in behind 1 from two short", far.foresee(1, 3), 0);
        CHECK.due("in behind 2 from two short", far.foresee(2, 3), 1);
    }

    private static void foreseeFromALaterTick() {
        CHECK.sentence("Returns this, behind so many ticks, if nothing is done");
        for (int ticksMore = 0; ticksMore <= 5; ticksMore++) {
            boolean even = ticksMore % 2 == 0;
            String later = ", " + ticksMore + " later";
            CHECK.due("both, rest" + later, oneStrokeShort(ticksMore, 30).foresee(1, 3), even ? 1 : 0);
            CHECK.due("rest, both" + later, oneStrokeShort(ticksMore, 3).foresee(1, 3), even ? 0 : 1);
            CHECK.due("either in two" + later, oneStrokeShort(ticksMore, 3).foresee(2, 3), 1);
        }
    }

    private static void foreseeNone() {
        CHECK.sentence("what: 3 to 6 as count() has it");
        int[] ticks = {1, 200};
        int[] none = {0, 0, -1, -1};
        int[] all = {6, 0, -1, 0};
        for (int t : ticks) {
            for (int what = 3; what <= 6; what++) {
                CHECK.due("no boats: foresee(" + t + ", " + what + ")", Races.empty().foresee(t, what), none[what - 3]);
                CHECK.due("all in: foresee(" + t + ", " + what + ")",
                    Races.withAllIn().foresee(t, what), all[what - 3]);
            }
        }
        CoracleRace race = Races.withBoat(0, 1, 1, 0);
        CHECK.due("one on its way: leads behind 199", race.foresee(199, 5), 0);
        CHECK.due("one on its way: leads behind 200", race.foresee(200, 5), -1);
        CHECK.due("one on its way: wins behind 199", race.foresee(199, 6), -1);
        CHECK.due("one on its way: wins behind 200", race.foresee(200, 6), 0);
    }

    private static void foreseeOfSeveral() {
        CHECK.sentence("what: 3 to 6 as count() has it");
        CoracleRace race = Races.still();
        for (int i = 0; i < Races.MOST_BOATS; i++) {
            race.launch(2, i < 2 ? 7 : 8);
        }
        race.tar(2);
        CHECK.due("of several that lead the smallest number", race.foresee(1, 5), 2);
        CHECK.due("of several that win the smallest number", race.foresee(26, 6), 3);
        CHECK.due("leads behind those that are in", race.foresee(26, 5), 0);
        CHECK.due("the least time behind all ticks", race.foresee(200, 6), 3);
        CHECK.due("fouls of all", race.foresee(200, 4), 4);
        CHECK.due("leads now", race.count(5), 0);
        CoracleRace tie = Races.stillWithBoat(2, 7, 1, 3);
        tie.launch(2, 8);
        tie.tar(1);
        CHECK.due("the second one is in, with the time 30", tie.foresee(29, 6), 1);
        CHECK.due("the first one is in too, with the same time", tie.foresee(30, 6), 0);
    }

    private static void foreseeChangesNothing() {
        CHECK.sentence("(nothing is changed)");
        for (int i = 3; i <= 6; i++) {
            int what = i;
            changesNothing("foresee(1, " + what + ")", () -> Races.withBoats(6), race -> race.foresee(1, what));
            changesNothing("foresee(200, " + what + ")", () -> Races.withWeirs(6), race -> race.foresee(200, what));
            changesNothing("foresee(200, " + what + ") in", Races::withOneIn, race -> race.foresee(200, what));
            changesNothing("foresee(200, " + what + "), new", Races::empty, race -> race.foresee(200, what));
        }
    }

    // ---- promise 14

    private static void adviseBoat() {
        CHECK.sentence("Throws IndexOutOfBoundsException if there is no such boat");
        for (int there : BOATS_THERE) {
            CHECK.range("advise(boat, 9) of " + there, () -> Races.withBoats(there), OUT_OF_BOUNDS, 0, there - 1,
                (race, boat) -> race.advise(boat, 9));
        }
    }

    private static void adviseTicks() {
        CHECK.sentence("Throws IllegalArgumentException if ticks is not 1 to 60");
        CHECK.range("advise(1, ticks), on its way", Races::withOneIn, ILLEGAL_ARGUMENT, 1, 60,
            (race, ticks) -> race.advise(1, ticks));
        CHECK.range("advise(0, ticks), in", Races::withOneIn, ILLEGAL_ARGUMENT, 1, 60,
            (race, ticks) -> race.advise(0, ticks));
    }

    private static void adviseWithSeveralWrong() {
        CHECK.sentence("If several exceptions apply, the one that is named first is thrown.");
        CHECK.outOfBounds("advise(2, 0)", () -> Races.withBoats(2), race -> race.advise(2, 0));
        CHECK.outOfBounds("advise(2, 61)", () -> Races.withBoats(2), race -> race.advise(2, 61));
        CHECK.outOfBounds("advise(-1, 0)", () -> Races.withBoats(2), race -> race.advise(-1, 0));
        CHECK.outOfBounds("advise(-1, 61)", () -> Races.withBoats(2), race -> race.advise(-1, 61));
        CHECK.outOfBounds("advise(0, 0) without boats", Races::empty, race -> race.advise(0, 0));
    }

    private static void adviseInOneTick() {
        CHECK.sentence("if it has it from now on, comes the farthest in so many ticks");
        CoracleRace race = Races.stillWithBoat(2, 8, 1, 0);
        for (int tick = 0; tick < 8; tick++) {
            CHECK.due("one tick, from " + tick, race.advise(0, 1), tick % 2 == 0 ? 30 : 3);
            CHECK.due("two ticks, from " + tick, race.advise(0, 2), 33);
            race.go(1);
        }
    }

    /** From 170 by 1 a stroke, in 60 ticks every other stroke is enough; in 59 only if it is the first one's. */
    private static void adviseInSixtyTicks() {
        CHECK.sentence("comes the farthest in so many ticks");
        CoracleRace race = Races.stillWithBoat(2, 6, 1, 0);
        race.setWater(2, 2);
        race.go(85);
        race.setWater(2, 0);
        race.go(35);
        CHECK.due("at", race.boat(0, 0), 170);
        CHECK.due("soaked by", race.boat(0, 3), 30);
        CHECK.due("58 ticks", race.advise(0, 58), 33);
        CHECK.due("59 ticks", race.advise(0, 59), 30);
        CHECK.due("60 ticks", race.advise(0, 60), 3);
    }

    private static void adviseOfSeveralTheLeast() {
        CHECK.sentence("of several the least");
        CoracleRace race = Races.at(198, 8);
        race.go(race.count(0) % 2);
        CHECK.due("a half is enough, and left is less than right and both", race.advise(0, 1), 10);
        CHECK.due("in two ticks the second stroke does it too", race.advise(0, 2), 1);
        race.setWater(2, 2);
        CHECK.due("water is enough", race.advise(0, 1), 0);
        CoracleRace soaked = Races.soaked(1, 30);
        CHECK.due("none goes any farther", soaked.advise(0, 60), 0);
        CoracleRace held = Races.stillWithBoat(2, 8, 1, 0);
        held.weir(1, 0);
        CHECK.due("all strokes come to the weir alone", held.advise(0, 1), 10);
    }

    private static void adviseForBoatThatIsIn() {
        CHECK.sentence("of several the least");
        CHECK.due("in, one tick", Races.withOneIn().advise(0, 1), 0);
        CHECK.due("in, sixty ticks", Races.withOneIn().advise(0, 60), 0);
        CHECK.due("all in", Races.withAllIn().advise(5, 60), 0);
    }

    private static void adviseChangesNothing() {
        CHECK.sentence("(nothing is changed)");
        changesNothing("advise(0, 1)", () -> Races.withBoats(6), race -> race.advise(0, 1));
        changesNothing("advise(5, 60)", () -> Races.withBoats(6), race -> race.advise(5, 60));
        changesNothing("advise(1, 60) of six weirs", () -> Races.withWeirs(6), race -> race.advise(1, 60));
        changesNothing("advise(0, 60) in", Races::withOneIn, race -> race.advise(0, 60));
        CoracleRace race = Races.withBoat(2, 8, 6, 301203);
        race.advise(0, 60);
        CHECK.due("the pattern stays", race.paddle(0, 1, 3), 6);
    }

    // ---- promise 15

    private static void meanOfNone() {
        CHECK.sentence("0 if there are none");
        CHECK.dueDouble("new", Races.empty().mean(), 0);
        CoracleRace race = Races.still();
        race.go(200);
        race.weir(100, 0);
        CHECK.dueDouble("ticks and a weir, but no boats", race.mean(), 0);
    }

    private static void meanOfAll() {
        CHECK.sentence("Returns the mean place of all boats");
        CHECK.dueDouble("one at 0", Races.withBoats(1).mean(), 0);
        CHECK.dueDouble("one at 199", Races.at(199, 8).mean(), 199);
        CHECK.dueDouble("six at 200", Races.withAllIn().mean(), 200);
        CHECK.dueDouble("one at 200 and one at 0", Races.withOneIn().mean(), 100);
        CoracleRace third = Races.stillWithBoat(2, 1, 1, 3);
        third.launch(0, 1);
        third.launch(0, 1);
        third.paddle(1, 1, 0);
        third.paddle(2, 1, 0);
        third.go(1);
        CHECK.dueDouble("1, 0 and 0", third.mean(), 1 / 3.0);
        CoracleRace six = Races.still();
        for (int i = 0; i < Races.MOST_BOATS; i++) {
            six.launch(0, 3 + i);
        }
        six.go(1);
        CHECK.dueDouble("3 to 8", six.mean(), 33 / 6.0);
    }

    // ---- promise 16

    private static long digestOf(List<Integer> numbers) {
        BigInteger d = BigInteger.valueOf(1163);
        for (int x : numbers) {
            d = d.multiply(BigInteger.valueOf(31)).add(BigInteger.valueOf(x));
        }
        return d.longValue();
    }

    private static List<Integer> numbers(int... numbers) {
        List<Integer> list = new ArrayList<>();
        for (int x : numbers) {
            list.add(x);
        }
        return list;
    }

    private static void digestStarts() {
        CHECK.sentence("A number d starts with 1163");
        CHECK.due("new", Races.empty().digest(), digestOf(numbers(0, 0, 0, 0, 0, -1, -1, 1, 2, 3, 2, 1)));
        CHECK.due("still", Races.still().digest(), digestOf(numbers(0, 0, 0, 0, 0, -1, -1, 0, 0, 0, 0, 0)));
    }

    /** Whole, the number for one boat has some 120 binary digits; the digest has the last 64 of them. */
    private static void digestWrapsAround() {
        CHECK.sentence("which wraps around as a 64-bit integer");
        CoracleRace race = Races.still();
        race.launch(4, 1);
        race.paddle(0, 1, 2);
        boolean below = false;
        boolean above = false;
        for (int tick = 0; tick < 20; tick++) {
            List<Integer> numbers = numbers(tick, 1, 0, 0, race.count(4), 0, -1, 0, 0, 0, 0, 0);
            for (int what = 0; what <= 8; what++) {
                numbers.add(race.boat(0, what));
            }
            numbers.add(2);
            numbers.add(1);
            CHECK.due("tick " + tick, race.digest(), digestOf(numbers));
            below |= race.digest() < 0;
            above |= race.digest() > Integer.MAX_VALUE;
            race.go(1);
        }
        CHECK.due("some are below 0, some beyond 32 bits", below && above ? 1 : 0, 1);
    }

    private static void digestOfAllThatMayBe() {
        CHECK.sentence("what count() tells, in its order; the water of each lane; for each weir, by their coming,"
            + " its place and its gap; for each boat what boat() tells, in its order, its strokes, and its rank");
        int[] places = {199, 1, 100, 30, 150, 31};
        int[] strokes = {3, 30, 301, 3012, 30123, 333333};
        CoracleRace race = new CoracleRace();
        for (int i = 0; i < 6; i++) {
            race.weir(places[i], i % Races.LANES);
            race.launch(i % Races.LANES, 8 - i);
            race.paddle(i, i + 1, strokes[i]);
        }
        race.setWater(0, 6);
        race.setWater(4, 0);
        for (int go = 0; go < 8; go++) {
            List<Integer> numbers = new ArrayList<>();
            for (int what = 0; what <= 6; what++) {
                numbers.add(race.count(what));
            }
            numbers.addAll(numbers(6, 2, 3, 2, 0));
            for (int i = 0; i < 6; i++) {
                numbers.add(places[i]);
                numbers.add(i % Races.LANES);
            }
            for (int boat = 0; boat < 6; boat++) {
                for (int what = 0; what <= 8; what++) {
                    numbers.add(race.boat(boat, what));
                }
                for (char digit : String.valueOf(strokes[boat]).toCharArray()) {
                    numbers.add(digit - '0');
                }
                numbers.add(race.rank(boat));
            }
            CHECK.due("six of each, behind " + go + " times 15 ticks", race.digest(), digestOf(numbers));
            race.go(15);
        }
    }

    private static void digestByTheirComing() {
        CHECK.sentence("for each weir, by their coming, its place and its gap");
        CoracleRace race = new CoracleRace();
        race.weir(199, 4);
        CHECK.due("one weir", race.digest(), digestOf(numbers(0, 0, 1, 0, 0, -1, -1, 1, 2, 3, 2, 1, 199, 4)));
        race.weir(1, 0);
        CHECK.due("two weirs", race.digest(), digestOf(numbers(0, 0, 2, 0, 0, -1, -1, 1, 2, 3, 2, 1, 199, 4, 1, 0)));
    }

    /** Patterns of rests alone show that each of the strokes is a number of its own. */
    private static void digestOfStrokes() {
        CHECK.sentence("its strokes");
        CoracleRace race = Races.still();
        race.launch(3, 8);
        List<Integer> ahead = numbers(0, 1, 0, 0, 0, 0, -1, 0, 0, 0, 0, 0, 0, 3, 0, 0, 0, 0, -1, 0, 0);
        List<Integer> atFirst = new ArrayList<>(ahead);
        atFirst.add(3);
        atFirst.add(1);
        CHECK.due("at first", race.digest(), digestOf(atFirst));
        for (int length = 1; length <= 6; length++) {
            race.paddle(0, length, 0);
            List<Integer> rests = new ArrayList<>(ahead);
            for (int i = 0; i < length; i++) {
                rests.add(0);
            }
            rests.add(1);
            CHECK.due(length + " rests", race.digest(), digestOf(rests));
        }
    }
}
