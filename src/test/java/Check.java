import java.util.concurrent.Callable;

/** Counts what is not as due, prints it, and ends a test's program with the exit code for it. */
final class Check {
    private int checks = 0;
    private int wrong = 0;

    void due(String what, long got, long want) {
        checks++;
        if (got != want) {
            wrong++;
            System.out.println(what + " answered " + got + ", due is " + want);
        }
    }

    void dueDouble(String what, double got, double want) {
        checks++;
        if (got != want) {
            wrong++;
            System.out.println(what + " answered " + got + ", due is " + want);
        }
    }

    void dueText(String what, String got, String want) {
        checks++;
        if (!got.equals(want)) {
            wrong++;
            System.out.println(what + " answered " + got + ", due is " + want);
        }
    }

    /** The call throws just this exception, and changes nothing that the object tells. */
    void refused(CoracleRace race, String what, Class<? extends Exception> want, Callable<?> call) {
        long before = race.digest();
        dueText(what, nameOfThrown(call), want.getName());
        due("digest after " + what, race.digest(), before);
    }

    void outOfBounds(CoracleRace race, String what, Callable<?> call) {
        refused(race, what, IndexOutOfBoundsException.class, call);
    }

    void illegalArgument(CoracleRace race, String what, Callable<?> call) {
        refused(race, what, IllegalArgumentException.class, call);
    }

    void illegalState(CoracleRace race, String what, Callable<?> call) {
        refused(race, what, IllegalStateException.class, call);
    }

    /** What boat() tells, from 0 to 8. */
    void dueBoat(String what, CoracleRace race, int boat, int... facts) {
        for (int i = 0; i < facts.length; i++) {
            due(what + ": boat(" + boat + ", " + i + ")", race.boat(boat, i), facts[i]);
        }
    }

    /** What count() tells, from 0 to 6. */
    void dueCounts(String what, CoracleRace race, int... counts) {
        for (int i = 0; i < counts.length; i++) {
            due(what + ": count(" + i + ")", race.count(i), counts[i]);
        }
    }

    void end() {
        System.out.println(checks + " checks, " + wrong + " wrong");
        if (wrong != 0 || checks == 0) {
            System.exit(1);
        }
    }

    private static String nameOfThrown(Callable<?> call) {
        try {
            return "no exception but " + call.call();
        } catch (Exception e) {
            return e.getClass().getName();
        }
    }
}
