import java.util.concurrent.Callable;

/** Long runs of mixed calls, answered by the class and by the model alike. The calls are the same in each run of the test. */
public final class ModelTest {
    private static final int RUNS = 150;
    private static final int CALLS = 512;
    private static final Check CHECK = new Check();
    private static long seed;

    public static void main(String[] args) {
        for (int run = 0; run < RUNS; run++) {
            seed = run * 7919L + 17;
            // How often ticks go by: some runs stay in the early race, some are soon over.
            play(run, 1 + run % 12);
        }
        CHECK.end();
    }

    /** A number from least to most, by a row of numbers that is always the same. */
    private static int pick(int least, int most) {
        seed = seed * 6364136223846793005L + 1442695040888963407L;
        return least + (int) Math.floorMod(seed >> 33, (long) (most - least + 1));
    }

    /** Mostly a number from least to most; at times one just beside, or far off. */
    private static int around(int least, int most) {
        int way = pick(0, 59);
        if (way == 0) {
            return least - 1;
        }
        if (way == 1) {
            return most + 1;
        }
        if (way == 2) {
            return pick(0, 1) == 0 ? Integer.MIN_VALUE : Integer.MAX_VALUE;
        }
        return pick(least, most);
    }

    private static int strokes(int length) {
        int strokes = 0;
        for (int i = 0; i < length; i++) {
            strokes = strokes * 10 + pick(0, 3);
        }
        int way = pick(0, 39);
        return way == 0 ? -strokes - 1 : way == 1 ? strokes * 10 + 1 : way == 2 ? strokes + 4 : strokes;
    }

    private static void play(int run, int pace) {
        CoracleRace race = new CoracleRace();
        Model model = new Model();
        for (int call = 0; call < CALLS; call += 2) {
            one(run, call, pace, race, model);
            CHECK.due("run " + run + ", call " + call + ": digest()", race.digest(), model.digest());
        }
    }

    private static void one(int run, int call, int pace, CoracleRace race, Model model) {
        int boat = around(0, 5);
        int ticks = pick(0, 11) < pace ? around(1, 4) : around(1, 200);
        int kind = pick(0, 33);
        if (kind < 2) {
            int lane = around(0, 4);
            int water = around(0, 6);
            same(run, call, "setWater " + lane + " " + water,
                () -> race.setWater(lane, water), () -> model.setWater(lane, water));
        } else if (kind < 4) {
            int place = around(1, 199);
            int gap = around(0, 4);
            same(run, call, "weir " + place + " " + gap, () -> race.weir(place, gap), () -> model.weir(place, gap));
        } else if (kind < 6) {
            int lane = around(0, 4);
            int strength = around(1, 8);
            same(run, call, "launch " + lane + " " + strength,
                () -> race.launch(lane, strength), () -> model.launch(lane, strength));
        } else if (kind < 11) {
            int length = around(1, 6);
            int strokes = strokes(length < 1 || length > 7 ? 3 : length);
            same(run, call, "paddle " + boat + " " + length + " " + strokes,
                () -> race.paddle(boat, length, strokes), () -> model.paddle(boat, length, strokes));
        } else if (kind < 13) {
            same(run, call, "tar " + boat, () -> race.tar(boat), () -> model.tar(boat));
        } else if (kind < 18) {
            same(run, call, "go " + ticks, () -> race.go(ticks), () -> model.go(ticks));
        } else {
            ask(run, call, kind, race, model);
        }
    }

    private static void ask(int run, int call, int kind, CoracleRace race, Model model) {
        int boat = around(0, 5);
        if (kind < 20) {
            int what = around(0, 8);
            same(run, call, "boat " + boat + " " + what, () -> race.boat(boat, what), () -> model.boat(boat, what));
        } else if (kind < 21) {
            int what = around(0, 6);
            same(run, call, "count " + what, () -> race.count(what), () -> model.count(what));
        } else if (kind < 22) {
            int place = around(0, 200);
            same(run, call, "next " + place, () -> race.next(place), () -> model.next(place));
        } else if (kind < 23) {
            same(run, call, "rank " + boat, () -> race.rank(boat), () -> model.rank(boat));
        } else if (kind < 26) {
            same(run, call, "arrives " + boat, () -> race.arrives(boat), () -> model.arrives(boat));
        } else if (kind < 29) {
            int ticks = around(1, 200);
            int what = around(3, 6);
            same(run, call, "foresee " + ticks + " " + what,
                () -> race.foresee(ticks, what), () -> model.foresee(ticks, what));
        } else if (kind < 32) {
            int ticks = around(1, 60);
            same(run, call, "advise " + boat + " " + ticks,
                () -> race.advise(boat, ticks), () -> model.advise(boat, ticks));
        } else {
            same(run, call, "mean", race::mean, model::mean);
        }
    }

    private static void same(int run, int call, String what, Callable<?> got, Callable<?> want) {
        CHECK.dueText("run " + run + ", call " + call + ": " + what, Check.answer(got), Check.answer(want));
    }
}
