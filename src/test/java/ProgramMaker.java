import java.util.Random;

/** Makes programs by a seed: wild ones, and ones that call, come back, repeat and are alike. */
final class ProgramMaker {
    private static final int MOST_CHANGES = Pair.MOST_CALLS - 32;

    private final Random random;
    private final Pair pair;

    ProgramMaker(Random random, Pair pair) {
        this.random = random;
        this.pair = pair;
    }

    private int below(int n) {
        return random.nextInt(n);
    }

    /** Those that would leave the object too few calls are left out. */
    private void put(int f, int number, int a, int b, int c) {
        if (pair.changes() < MOST_CHANGES) {
            pair.put(f, number, a, b, c);
        }
    }

    private int wildValue() {
        switch (below(12)) {
            case 0: return new int[] {-1, 32, 5, 2048, -2049, 1048576, 24, 40}[below(8)];
            case 1: return random.nextInt();
            case 2: return -below(2049);
            case 3: return below(2048);
            case 4: return below(1048576);
            case 5: return new int[] {Integer.MIN_VALUE, Integer.MAX_VALUE}[below(2)];
            default: return below(12);
        }
    }

    void wild() {
        int functions = 1 + below(26);
        for (int f = 0; f < functions; f++) {
            pair.function();
        }
        int puts = below(60);
        for (int i = 0; i < puts; i++) {
            put(below(functions + 1) - below(2), below(37) - 1, wildValue(), wildValue(), wildValue());
        }
    }

    /** Small ones, all with few signs, that are likely to be undefined somewhere. */
    void small() {
        int functions = 1 + below(4);
        for (int f = 0; f < functions; f++) {
            pair.function();
        }
        for (int f = 0; f < functions; f++) {
            int length = below(7);
            for (int i = 0; i < length; i++) {
                smallSign(f, functions, length + 1);
            }
            if (below(12) != 0) {
                put(f, new int[] {31, 31, 28, 30}[below(4)], below(Math.max(functions, length)), 0, 0);
            }
        }
    }

    private int register() {
        return new int[] {0, 1, 1, 6, 6, 7, 10}[below(7)];
    }

    private void smallSign(int f, int functions, int length) {
        int free = wildValue();
        switch (below(12)) {
            case 0: put(f, below(10), register(), register(), register()); break;
            case 1: put(f, 10 + below(6), register(), register(), below(3) - 1); break;
            case 2: put(f, 10, register(), register(), 0); break;
            case 3: put(f, 16 + below(3), register(), register(), below(32)); break;
            case 4: put(f, 19, register(), 16, free); break;
            case 5: put(f, 20 + below(2), register(), register(), 4 * below(3) - below(2)); break;
            case 6: put(f, 22 + below(6), register(), register(), below(length + 1)); break;
            case 7: put(f, 32, register(), below(functions + 1), free); break;
            case 8: put(f, 33, register(), free, free); break;
            case 9: put(f, 29, below(functions + 1), free, free); break;
            case 10: put(f, 34, free, free, free); break;
            default: put(f, 28, below(length), free, free);
        }
    }

    /** Functions that keep what they come back to in memory, and go on to later ones alone. */
    void orderly() {
        int functions = 2 + below(9);
        int phrases = 1 + below(4);
        int[][][] phrase = new int[phrases][][];
        for (int i = 0; i < phrases; i++) {
            phrase[i] = new int[1 + below(9)][];
            for (int j = 0; j < phrase[i].length; j++) {
                phrase[i][j] = plainSign();
            }
        }
        for (int f = 0; f < functions; f++) {
            pair.function();
        }
        int kinds = 1 + below(4);
        long[] seeds = new long[kinds];
        for (int i = 0; i < kinds; i++) {
            seeds[i] = random.nextLong();
        }
        for (int f = 0; f < functions; f++) {
            Random shape = new Random(seeds[below(kinds)]);
            orderlyFunction(f, functions, phrase, shape);
        }
    }

    private int[] plainSign() {
        int a = 6 + below(6);
        int b = 6 + below(6);
        switch (below(6)) {
            case 0: return new int[] {below(10), a, b, 6 + below(6)};
            case 1: return new int[] {10 + below(6), a, b, below(4096) - 2048};
            case 2: return new int[] {16 + below(3), a, b, below(32)};
            case 3: return new int[] {19, a, below(1048576), 0};
            case 4: return new int[] {20 + below(2), a, 3, 4 * (32 + below(4))};
            default: return new int[] {34, 0, 0, 0};
        }
    }

    /** Register 2 points to where register 1 is kept, 3 to memory; the same shape, the same signs. */
    private void orderlyFunction(int f, int functions, int[][][] phrase, Random shape) {
        boolean leaf = f == functions - 1;
        if (f == 0) {
            put(f, 19, 3, 16, 0);
            put(f, 10, 2, 3, -4);
        }
        put(f, 10, 2, 2, 4);
        put(f, 21, 1, 2, 0);
        int parts = 1 + shape.nextInt(5);
        for (int i = 0; i < parts; i++) {
            for (int[] s : phrase[shape.nextInt(phrase.length)]) {
                put(f, s[0], s[1], s[2], s[3]);
            }
            orderlyPart(f, functions, shape);
        }
        put(f, 20, 1, 2, 0);
        put(f, 10, 2, 2, -4);
        if (shape.nextInt(4) == 0 && !leaf) {
            put(f, 30, f + 1 + below(functions - f - 1), 0, 0);
        } else {
            put(f, 31, 0, 0, 0);
        }
    }

    private void orderlyPart(int f, int functions, Random shape) {
        int place = pair.about(f, 0);
        int x = 6 + shape.nextInt(6);
        int y = 6 + shape.nextInt(6);
        int branch = 22 + shape.nextInt(6);
        switch (shape.nextInt(6)) {
            case 0:
            case 1:
                if (f < functions - 1) {
                    put(f, 29, f + 1 + below(functions - f - 1), 0, 0);
                }
                break;
            case 2:
                if (f < functions - 1 && branch < 25) {
                    put(f, 32, 12, functions - 1, 0);
                    put(f, 33, 12, 0, 0);
                }
                break;
            case 3:
                put(f, branch, x, y, Math.min(place + 2, 39));
                put(f, 10, 6, 6, 1);
                break;
            case 4:
                if (place > 4) {
                    put(f, branch, x, y, 4 + shape.nextInt(place - 4));
                }
                break;
            default:
        }
    }

    /** Few different signs in long rows: many rows come again, some within themselves. */
    void repetitive() {
        int functions = 1 + below(12);
        int signs = 1 + below(4);
        int[][] sign = new int[signs][];
        for (int i = 0; i < signs; i++) {
            sign[i] = plainSign();
        }
        for (int f = 0; f < functions; f++) {
            pair.function();
        }
        int jumps = below(3);
        for (int f = 0; f < functions; f++) {
            int length = below(40);
            for (int i = 0; i < length; i++) {
                int[] s = sign[below(signs)];
                if (below(12) < jumps) {
                    put(f, 22 + below(6), 6, 7, below(length + 1));
                } else {
                    put(f, s[0], s[1], s[2], s[3]);
                }
            }
            put(f, 31, 0, 0, 0);
        }
    }
}
