import java.util.Random;

/** Any arguments in any state: 512 calls an object, none of which may throw or hang. */
public final class AnyCallsTest {
    private static final int[] EDGES = {
        Integer.MIN_VALUE, Integer.MIN_VALUE + 1, -65536, -4097, -2049, -2048, -2, -1, 0, 1, 2, 4, 5,
        23, 24, 31, 32, 34, 35, 39, 40, 59, 60, 63, 64, 149, 150, 199, 200, 299, 300, 599, 600, 2047,
        2048, 4096, 20000, 20001, 65536, 1048575, 1048576, Integer.MAX_VALUE - 1, Integer.MAX_VALUE};

    public static void main(String[] args) {
        Checks checks = new Checks("AnyCallsTest");
        for (int seed = 0; seed < 400; seed++) {
            Random random = new Random(seed);
            Pair pair = new Pair(checks, "seed " + seed);
            for (int i = 0; i < 512; i++) {
                anyCall(pair, random, i);
            }
            pair.compareFunctions();
            pair.compareImage();
            pair.compareRuns();
        }
        checks.end();
    }

    private static int any(Random random) {
        return random.nextInt(3) == 0 ? EDGES[random.nextInt(EDGES.length)] : random.nextInt(8);
    }

    private static void anyCall(Pair pair, Random random, int i) {
        int a = any(random);
        int b = any(random);
        int c = any(random);
        switch (random.nextInt(24)) {
            case 0: pair.function(); break;
            case 1: pair.press(random.nextBoolean(), random.nextBoolean()); break;
            case 2: pair.x.about(a, b); break;
            case 3: pair.x.body(a, b); break;
            case 4: pair.x.routine(a, b); break;
            case 5: pair.x.occurrence(a, b, c); break;
            case 6: pair.x.word(a); break;
            case 7: pair.run(a & 1, b); break;
            case 8: pair.run(a, b); break;
            case 9: pair.x.ran(a, b); break;
            case 10: pair.x.printed(a, b); break;
            case 11: pair.x.register(a, b); break;
            case 12: pair.x.memory(a, b); break;
            case 13: pair.count(a); break;
            case 14: if (random.nextInt(30) == 0) pair.clear(); break;
            case 15:
                for (int f = 0; f < pair.x.count(0); f++) {
                    pair.put(f, 31, a, b, c);
                }
                break;
            default: pair.put(any(random), random.nextInt(36), a, b, c);
        }
    }
}
