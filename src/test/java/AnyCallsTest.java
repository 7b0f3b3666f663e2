import java.util.Random;

/** Any arguments in any state: as many calls as an object may get, none of which may throw or hang. */
public final class AnyCallsTest {
    private static final int[] EDGES = {
        Integer.MIN_VALUE, Integer.MIN_VALUE + 1, -65536, -4097, -2049, -2048, -2, -1, 0, 1, 2, 4, 5,
        23, 24, 31, 32, 34, 35, 39, 40, 59, 60, 63, 64, 149, 150, 199, 200, 299, 300, 599, 600, 2047,
        2048, 4096, 20000, 20001, 65536, 1048575, 1048576, Integer.MAX_VALUE - 1, Integer.MAX_VALUE};

    public static void main(String[] args) {
        Checks checks = new Checks("AnyCallsTest");
        for (int seed = 0; seed < 400; seed++) {
            Random random = new Random(seed);
            Pair pair = new Pair(checks, "seed " + seed);
            for (int i = 0; i < Pair.MOST_CALLS - 24; i++) {
                anyCall(pair, random);
            }
            // each FUNCTION gets an end, so that it can be pressed
            for (int f = 0; f < pair.count(0) && f < 20; f++) {
                pair.put(f, 31, 0, 0, 0);
            }
            pair.press(seed % 2 == 0, true);
            pair.run(1, 500);
            pair.compareFunctions();
            pair.compareImage();
            pair.compareRuns();
        }
        checks.end();
    }

    private static int any(Random random) {
        return random.nextInt(3) == 0 ? EDGES[random.nextInt(EDGES.length)] : random.nextInt(8);
    }

    private static void anyCall(Pair pair, Random random) {
        int a = any(random);
        int b = any(random);
        int c = any(random);
        switch (random.nextInt(24)) {
            case 0: pair.function(); break;
            case 1: pair.press(random.nextBoolean(), random.nextBoolean()); break;
            case 2: pair.about(a, b); break;
            case 3: pair.body(a, b); break;
            case 4: pair.routine(a, b); break;
            case 5: pair.occurrence(a, b, c); break;
            case 6: pair.word(a); break;
            case 7: pair.run(a & 1, b); break;
            case 8: pair.run(a, b); break;
            case 9: pair.ran(a, b); break;
            case 10: pair.printed(a, b); break;
            case 11: pair.register(a, b); break;
            case 12: pair.memory(a, b); break;
            case 13: pair.count(a); break;
            case 14: if (random.nextInt(30) == 0) pair.clear(); break;
            default: pair.put(any(random), random.nextInt(36), a, b, c);
        }
    }
}
