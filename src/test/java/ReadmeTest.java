/** The example that README.md gives, call by call, with the answers that it tells. */
public final class ReadmeTest {
    private static final Check CHECK = new Check();

    public static void main(String[] args) {
        CoracleRace race = new CoracleRace();
        int boat = race.launch(2, 8);
        CHECK.due("launch", boat, 0);
        CHECK.due("weir", race.weir(60, 1), 1);
        CHECK.due("paddle", race.paddle(boat, 3, 133), 1);
        CHECK.due("arrives", race.arrives(boat), 63);
        CHECK.due("foresee", race.foresee(10, 4), 15);
        CHECK.due("advise", race.advise(boat, 40), 3);
        CHECK.due("go", race.go(10), 0);
        CHECK.due("its place", race.boat(boat, 0), 47);
        CHECK.due("its lane", race.boat(boat, 1), 4);
        CHECK.due("how it heads", race.boat(boat, 2), 4);
        CHECK.due("leads", race.count(5), 0);
        CHECK.due("tar", race.tar(boat), 3);
        CHECK.dueText("launch in no lane", Check.answer(() -> race.launch(5, 8)), "throws.IllegalArgumentException");
        CHECK.end();
    }
}
