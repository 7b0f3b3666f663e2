/** What it is: one program through all of it, from its functions to both of its runs. */
final class WholePart extends Part {
    private static final int[][] KEEP = f(i(LUI, 3, 16), i(SW, 1, 3, 0));
    private static final int[][] GO_BACK = f(i(LW, 1, 3, 0), i(RET));
    private static final int[][] TWO_PRINTS = f(i(ADDI, 10, 0, 5), i(PRINT), i(ADDI, 10, 10, 1), i(PRINT));

    WholePart(Checks checks) {
        super(checks);
    }

    void check() {
        become();
        comeAgain();
        laidOut();
        runs();
    }

    /** 1 and 2 are the same but that one calls 3, the other 4; 3 and 4 are the same. */
    private LinkPress whole() {
        return program(join(KEEP, TWO_PRINTS, f(i(CALL, 1), i(CALL, 2)), GO_BACK),
            f(i(PRINT), i(TAIL, 3)), f(i(PRINT), i(TAIL, 4)),
            join(TWO_PRINTS, f(i(RET))), join(TWO_PRINTS, f(i(RET))));
    }

    private void become() {
        sentence("A press for programs of many functions: functions that are the same but for which of the same"
            + " they call become one,");
        LinkPress x = whole();
        due("press(false, false)", x.press(false, false), 10 + 2 + 2 + 5 + 5);
        due("count(4)", x.count(4), 5);
        due("press(true, false)", x.press(true, false), 10 + 2 + 5);
        due("count(4)", x.count(4), 3);
        int[] bodies = {0, 1, 1, 3, 3};
        for (int f = 0; f < bodies.length; f++) {
            due("body(" + f + ", 0)", x.body(f, 0), bodies[f]);
        }
    }

    private void comeAgain() {
        sentence("rows of instructions that come again become small routines,");
        LinkPress x = whole();
        due("press(true, true)", x.press(true, true), 7 + 2 + 2 + 5);
        due("count(5)", x.count(5), 1);
        due("count(6)", x.count(6), 4);
        due("routine(0, 0)", x.routine(0, 0), 4);
        due("routine(0, 1)", x.routine(0, 1), 2);
        due("press(false, true)", x.press(false, true), 7 + 2 + 2 + 2 + 2 + 5);
        due("routine(0, 1)", x.routine(0, 1), 3);
        due("count(6)", x.count(6), 4 * (2 * 4 - 1 - 3));
    }

    private void laidOut() {
        sentence("all is laid out and linked to RV32I words;");
        LinkPress x = whole();
        x.press(true, true);
        int[] words = {
            0x000101B7,  // 4096 lui x3, 16
            0x0011A023,  // 4100 sw x1, 0(x3)
            0x024002EF,  // 4104 jal x5, 4140
            0x010000EF,  // 4108 jal x1, 4124
            0x00C000EF,  // 4112 jal x1, 4124
            0x0001A083,  // 4116 lw x1, 0(x3)
            0x00008067,  // 4120 jalr x0, 0(x1)
            0x00000073,  // 4124 ecall
            0x0040006F,  // 4128 jal x0, 4132
            0x008002EF,  // 4132 jal x5, 4140
            0x00008067,  // 4136 jalr x0, 0(x1)
            0x00500513,  // 4140 addi x10, x0, 5
            0x00000073,  // 4144 ecall
            0x00150513,  // 4148 addi x10, x10, 1
            0x00000073,  // 4152 ecall
            0x00028067}; // 4156 jalr x0, 0(x5)
        due("count(3)", x.count(3), words.length);
        for (int k = 0; k < words.length; k++) {
            due("word(" + k + ")", x.word(k), words[k]);
        }
    }

    private void runs() {
        sentence("the program as told is run by what its signs mean, the image by what its words are.");
        LinkPress x = whole();
        int[] printed = {5, 6, 6, 5, 6, 6, 5, 6};
        told("as told", x, 100, ENDS, 10 + 2 * (2 + 5), NONE, NONE);
        ofImage("the image", x, 100, ENDS, 7 + 5 + 2 * (4 + 5), 0);
        for (int which = 0; which <= 1; which++) {
            due("ran(" + which + ", 2)", x.ran(which, 2), printed.length);
            for (int k = 0; k < printed.length; k++) {
                due("printed(" + which + ", " + k + ")", x.printed(which, k), printed[k]);
            }
        }
        // a RETURN is no number, an address of the image is one
        due("memory(0, 0)", x.memory(0, 0), 0);
        due("register(0, 1)", x.register(0, 1), 0);
        due("register(1, 5)", x.register(1, 5), 4136);
        due("register(0, 5)", x.register(0, 5), 0);
        LinkPress y = program(f(i(CALL, 1), i(RET)), f(i(ADDI, 10, 1, 0), i(PRINT), i(RET)));
        told("a RETURN is not PRINTED", y, 100, UNDEFINED, 2, 1, 1);
        ofImage("an address is", y, 4, FUEL, 4, 4100);
        due("printed(1, 0)", y.printed(1, 0), 4100);
    }
}
