import java.util.Random;

/** Many programs by seeds: every answer of LinkPress is the one of the plain model. */
public final class CompareTest {
    private static final int[] FUELS = {1, 2, 3, 5, 8, 20, 100, 1000, 20000, 0, 20001, -1};

    public static void main(String[] args) {
        Checks checks = new Checks("CompareTest");
        int rounds = args.length > 0 ? Integer.parseInt(args[0]) : 800;
        for (int seed = 0; seed < rounds; seed++) {
            Random random = new Random(seed);
            Pair pair = new Pair(checks, "seed " + seed);
            ProgramMaker maker = new ProgramMaker(random, pair);
            make(maker, random.nextInt(5));
            use(pair, random);
            if (pair.changes() < Pair.MOST_CALLS - 120) {
                useAnew(pair, maker, random, seed % 3 == 0);
            }
        }
        checks.end();
    }

    private static void make(ProgramMaker maker, int kind) {
        switch (kind) {
            case 0: maker.wild(); break;
            case 1: maker.small(); break;
            case 2: maker.repetitive(); break;
            default: maker.orderly();
        }
    }

    /** When it is cleared nothing of it is left for the next one; a third may come behind that. */
    private static void useAnew(Pair pair, ProgramMaker maker, Random random, boolean withThird) {
        pair.clear();
        pair.compareImage();
        maker.small();
        use(pair, random);
        if (withThird) {
            maker.small();
            use(pair, random);
        }
    }

    private static void use(Pair pair, Random random) {
        pair.compareFunctions();
        pair.run(0, FUELS[random.nextInt(FUELS.length)]);
        for (int i = 0; i < 4; i++) {
            pair.press((i & 1) == 0, (i & 2) == 0);
            pair.compareImage();
            pair.run(1, FUELS[random.nextInt(FUELS.length)]);
            pair.compareRuns();
        }
    }
}
