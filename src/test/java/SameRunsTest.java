import java.util.Random;

/** What ENDS as told does the same as an image, however it is pressed. */
public final class SameRunsTest {
    private static int ended;
    private static int folded;
    private static int withRoutines;

    public static void main(String[] args) {
        Checks checks = new Checks("SameRunsTest");
        for (int seed = 0; seed < 1500; seed++) {
            Pair pair = new Pair(checks, "seed " + seed);
            ProgramMaker maker = new ProgramMaker(new Random(seed), pair);
            if (seed % 3 == 0) {
                maker.small();
            } else {
                maker.orderly();
            }
            if (pair.run(0, 6000) == 0) {
                compare(checks, pair, "seed " + seed);
            }
        }
        checks.holds("many ended", ended > 500);
        checks.holds("many were folded", folded > 100);
        checks.holds("many had routines", withRoutines > 100);
        checks.end();
    }

    private static void compare(Checks checks, Pair pair, String name) {
        for (int i = 0; i < 4; i++) {
            int words = pair.press((i & 1) == 1, (i & 2) == 2);
            if (words < 0) {
                return;
            }
            ended += i == 0 ? 1 : 0;
            folded += i == 1 && pair.count(4) < pair.count(0) ? 1 : 0;
            withRoutines += i == 2 && pair.count(5) > 0 ? 1 : 0;
            checks.due(name + ", run(1, 20000)", pair.run(1, 20000), 0);
            checks.due(name + ", ran(1, 2)", pair.ran(1, 2), pair.ran(0, 2));
            for (int k = 0; k < 200 && k <= pair.ran(0, 2); k++) {
                checks.due(name + ", printed(1, " + k + ")", pair.printed(1, k), pair.printed(0, k));
            }
            // as told 0 may stand for an address or a return
            for (int k = 0; k < 32; k++) {
                int told = pair.register(0, k);
                checks.due(name + ", register(1, " + k + ")", told == 0 ? 0 : pair.register(1, k), told);
            }
            for (int k = 0; k < 64; k++) {
                int told = pair.memory(0, k);
                checks.due(name + ", memory(1, " + k + ")", told == 0 ? 0 : pair.memory(1, k), told);
            }
        }
    }
}
