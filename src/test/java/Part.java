import java.util.ArrayList;
import java.util.Arrays;
import java.util.List;

/**
 * A part of the document: each of its sentences is quoted, and what it says is checked by answers
 * reckoned by hand. Here are the instructions by name, and short ways to make and to run programs.
 * No object gets more than the 512 calls that the document allows.
 */
abstract class Part {
    static final int NONE = -1;
    static final int LEAST = Integer.MIN_VALUE;
    static final int MOST = Integer.MAX_VALUE;
    static final int ENDS = 0;
    static final int FUEL = 1;
    static final int UNDEFINED = 2;
    static final int BREAKS = 2;

    static final int ADD = 0;
    static final int SUB = 1;
    static final int AND = 2;
    static final int OR = 3;
    static final int XOR = 4;
    static final int SLL = 5;
    static final int SRL = 6;
    static final int SRA = 7;
    static final int SLT = 8;
    static final int SLTU = 9;
    static final int ADDI = 10;
    static final int ANDI = 11;
    static final int ORI = 12;
    static final int XORI = 13;
    static final int SLTI = 14;
    static final int SLTIU = 15;
    static final int SLLI = 16;
    static final int SRLI = 17;
    static final int SRAI = 18;
    static final int LUI = 19;
    static final int LW = 20;
    static final int SW = 21;
    static final int BEQ = 22;
    static final int BNE = 23;
    static final int BLT = 24;
    static final int BGE = 25;
    static final int BLTU = 26;
    static final int BGEU = 27;
    static final int JUMP = 28;
    static final int CALL = 29;
    static final int TAIL = 30;
    static final int RET = 31;
    static final int ADDR = 32;
    static final int ICALL = 33;
    static final int PRINT = 34;

    private final Checks checks;

    Part(Checks checks) {
        this.checks = checks;
    }

    abstract void check();

    void sentence(String quote) {
        checks.sentence(quote);
    }

    void due(String call, long got, long want) {
        checks.due(call, got, want);
    }

    void holds(String what, boolean is) {
        checks.holds(what, is);
    }

    /** How many of a, b, c an instruction tells, from a on. */
    static int toldBy(int number) {
        switch (number) {
            case RET: case PRINT:
                return 0;
            case JUMP: case CALL: case TAIL: case ICALL:
                return 1;
            case LUI: case ADDR:
                return 2;
            default:
                return 3;
        }
    }

    /** How many of a, b, c are registers, from a on. */
    static int registersOf(int number) {
        if (number <= SLTU) {
            return 3;
        }
        if (number == LUI || number == ADDR || number == ICALL) {
            return 1;
        }
        return number <= BGEU ? 2 : 0;
    }

    /** An instruction: its number, then a, b, c as far as they matter. */
    static int[] i(int... sign) {
        return Arrays.copyOf(sign, 4);
    }

    /** The instructions of a function. */
    static int[][] f(int[]... signs) {
        return signs;
    }

    static int[][] times(int n, int[] sign) {
        int[][] signs = new int[n][];
        Arrays.fill(signs, sign);
        return signs;
    }

    static int[][] join(int[][]... rows) {
        List<int[]> all = new ArrayList<>();
        for (int[][] row : rows) {
            all.addAll(Arrays.asList(row));
        }
        return all.toArray(new int[0][]);
    }

    /** Two instructions, after which the register is the number. */
    static int[][] load(int register, int number) {
        int low = number << 20 >> 20;
        return f(i(LUI, register, number - low >>> 12), i(ADDI, register, register, low));
    }

    /** A letter is an ADDI that names it, '.' is a RET. */
    static int[][] row(String letters) {
        int[][] signs = new int[letters.length()][];
        for (int k = 0; k < signs.length; k++) {
            signs[k] = letters.charAt(k) == '.' ? i(RET) : i(ADDI, 6, 7, letters.charAt(k));
        }
        return signs;
    }

    static LinkPress functions(int n) {
        LinkPress x = new LinkPress();
        for (int f = 0; f < n; f++) {
            x.function();
        }
        return x;
    }

    static int put(LinkPress x, int f, int[] sign) {
        return x.put(f, sign[0], sign[1], sign[2], sign[3]);
    }

    LinkPress program(int[][]... functions) {
        LinkPress x = functions(functions.length);
        for (int f = 0; f < functions.length; f++) {
            for (int[] sign : functions[f]) {
                holds("it is put: " + Arrays.toString(sign), put(x, f, sign) != NONE);
            }
        }
        return x;
    }

    LinkPress letters(String... functions) {
        int[][][] rows = new int[functions.length][][];
        for (int f = 0; f < rows.length; f++) {
            rows[f] = row(functions[f]);
        }
        LinkPress x = program(rows);
        holds("it is pressed", x.press(false, true) > 0);
        return x;
    }

    /** The run as told: how, steps, function, place. */
    void told(String name, LinkPress x, int fuel, int... want) {
        due(name + ": run(0, " + fuel + ")", x.run(0, fuel), want[0]);
        for (int what = 0; what <= 1; what++) {
            due(name + ": ran(0, " + what + ")", x.ran(0, what), want[what]);
        }
        due(name + ": ran(0, 3)", x.ran(0, 3), want[2]);
        due(name + ": ran(0, 4)", x.ran(0, 4), want[3]);
    }

    /** The run of the image, pressed anew: how, steps, pc. */
    void ofImage(String name, LinkPress x, int fuel, int... want) {
        holds(name + ": it is pressed", x.press(true, true) > 0);
        due(name + ": run(1, " + fuel + ")", x.run(1, fuel), want[0]);
        for (int what = 0; what <= 1; what++) {
            due(name + ": ran(1, " + what + ")", x.ran(1, what), want[what]);
        }
        due(name + ": ran(1, 3)", x.ran(1, 3), want[2]);
        due(name + ": ran(1, 4)", x.ran(1, 4), NONE);
    }

    /** As told and of the image: it ends, and the register is then so. */
    void ends(String name, LinkPress x, int register, int want) {
        holds(name + ": it is pressed", x.press(false, true) > 0);
        for (int which = 0; which <= 1; which++) {
            due(name + ": run(" + which + ", 500)", x.run(which, 500), ENDS);
            due(name + ": register(" + which + ", " + register + ")", x.register(which, register), want);
        }
    }
}
