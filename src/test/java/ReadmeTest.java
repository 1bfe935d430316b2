/** The program that README.md shows answers what README.md says. */
public final class ReadmeTest {
    private static final Check CHECK = new Check();

    public static void main(String[] args) {
        BusStage line = new BusStage();
        CHECK.same("start", line.start(0, 20), 0);
        int passenger = line.queue(1, 3);
        CHECK.same("arrives", line.arrives(passenger), 9);
        CHECK.same("go", line.go(9), 1);
        CHECK.same("paid", line.passenger(passenger, 4), 3);
        CHECK.holds("a transfer", line.change(passenger, 6));
        CHECK.same("foresee", line.foresee(60, 1), 2);
        CHECK.same("mean", line.mean(), 2.0);
        CHECK.finish();
    }
}
