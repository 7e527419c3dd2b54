import java.util.concurrent.Callable;
import java.util.function.Supplier;

/** Counts what is not as due, prints it, and ends a test's program with the exit code for it. */
final class Check {
    interface Call {
        Object on(CoracleRace race);
    }

    interface CallWithNumber {
        Object on(CoracleRace race, int number);
    }

    private static final int ROUNDS_OF_GOING_ON = 4;

    private String sentence = "";
    private int checks = 0;
    private int wrong = 0;

    /** The document's words that the next checks are about; a wrong answer is printed behind them. */
    void sentence(String words) {
        sentence = "\"" + words + "\": ";
    }

    void due(String what, long got, long want) {
        judge(got == want, what, String.valueOf(got), String.valueOf(want));
    }

    void dueDouble(String what, double got, double want) {
        judge(got == want, what, String.valueOf(got), String.valueOf(want));
    }

    void dueText(String what, String got, String want) {
        judge(got.equals(want), what, got, want);
    }

    private void judge(boolean right, String what, String got, String want) {
        checks++;
        if (!right) {
            wrong++;
            System.out.println(sentence + what + " answered " + got + ", due is " + want);
        }
    }

    /** The call throws just this exception, and the race is and goes on as one that never had the call. */
    void refused(String what, Supplier<CoracleRace> made, Class<? extends Exception> want, Call call) {
        CoracleRace asked = made.get();
        CoracleRace twin = made.get();
        dueText(what, answer(() -> call.on(asked)), "throws." + want.getSimpleName());
        goesOnAlike("after " + what, asked, twin);
    }

    void outOfBounds(String what, Supplier<CoracleRace> made, Call call) {
        refused(what, made, IndexOutOfBoundsException.class, call);
    }

    void illegalArgument(String what, Supplier<CoracleRace> made, Call call) {
        refused(what, made, IllegalArgumentException.class, call);
    }

    void illegalState(String what, Supplier<CoracleRace> made, Call call) {
        refused(what, made, IllegalStateException.class, call);
    }

    /** All from least to most is taken; what is just beside it, and what is far off, is refused. */
    void range(String what, Supplier<CoracleRace> made, Class<? extends Exception> want,
            int least, int most, CallWithNumber call) {
        for (int number = least; number <= most; number++) {
            int taken = number;
            CoracleRace race = made.get();
            String answer = answer(() -> call.on(race, taken));
            judge(!answer.startsWith("throws."), what + " with " + number, answer, "no exception");
        }
        int[] beside = {least - 1, most + 1, least - 2, most + 2, Integer.MIN_VALUE, Integer.MAX_VALUE};
        for (int number : beside) {
            refused(what + " with " + number, made, want, race -> call.on(race, number));
        }
    }

    /** Both tell the same, now and in ticks to come; what no call tells at once, as a strength, shows itself then. */
    void goesOnAlike(String what, CoracleRace one, CoracleRace other) {
        for (int round = 0; round < ROUNDS_OF_GOING_ON; round++) {
            String when = what + ", round " + round + ": ";
            due(when + "digest()", one.digest(), other.digest());
            dueDouble(when + "mean()", one.mean(), other.mean());
            due(when + "next(0)", one.next(0), other.next(0));
            for (int boat = 0; boat < other.count(1); boat++) {
                int asked = boat;
                alike(when + "arrives(" + boat + ")", one, other, race -> race.arrives(asked));
                alike(when + "advise(" + boat + ", 7)", one, other, race -> race.advise(asked, 7));
            }
            int number = round;
            alike(when + "foresee(40, 5)", one, other, race -> race.foresee(40, 5));
            alike(when + "launch", one, other, race -> race.launch(number, 4 + number));
            alike(when + "weir", one, other, race -> race.weir(151 + number, number));
            alike(when + "paddle", one, other, race -> race.paddle(number, 3, 313));
            alike(when + "go", one, other, race -> race.go(1 + 5 * number));
        }
        due(what + ": digest() at the end", one.digest(), other.digest());
    }

    private void alike(String what, CoracleRace one, CoracleRace other, Call call) {
        dueText(what, answer(() -> call.on(one)), answer(() -> call.on(other)));
    }

    /** What boat() tells, from 0 to 8. */
    void dueBoat(String what, CoracleRace race, int boat, int... facts) {
        for (int i = 0; i < facts.length; i++) {
            due(what + ": boat(" + boat + ", " + i + ")", race.boat(boat, i), facts[i]);
        }
    }

    /** What count() tells, from 0 to 6. */
    void dueCounts(String what, CoracleRace race, int... counts) {
        for (int i = 0; i < counts.length; i++) {
            due(what + ": count(" + i + ")", race.count(i), counts[i]);
        }
    }

    void dueRanks(String what, CoracleRace race, int... ranks) {
        for (int i = 0; i < ranks.length; i++) {
            due(what + ": rank(" + i + ")", race.rank(i), ranks[i]);
        }
    }

    void end() {
        System.out.println(checks + " checks, " + wrong + " wrong");
        if (wrong != 0 || checks == 0) {
            System.exit(1);
        }
    }

    /** The answer as a text, or throws. and the name of the exception; a subclass of what is due has another name. */
    static String answer(Callable<?> call) {
        try {
            return String.valueOf(call.call());
        } catch (Exception e) {
            String name = e.getClass().getName();
            return "throws." + name.replace("java.lang.", "");
        }
    }
}
