import java.util.Arrays;

/** V. IMAGE: how all is laid out and linked, what PRESS refuses, and how the IMAGE runs. */
final class ImagePart extends Part {
    ImagePart(Checks checks) {
        super(checks);
    }

    void check() {
        layout();
        largestImage();
        meansTheBody();
        occurrences();
        farRoutine();
        goesToAnOccurrence();
        goesPastAnOccurrence();
        theLeastRefusal();
        noFunction();
        openEnds();
        noSuchPlace();
        noSuchFunction();
        begin();
        steps();
        ending();
        noWord();
        outsideOfMemory();
        constants();
    }

    private void layout() {
        sentence("V. IMAGE, from address 4096 on: BODIES by numbers, then ROUTINES in order; INSTRUCTIONS in order, "
            + "one word each, but ADDR two.");
        LinkPress one = program(f(i(RET)));
        due("the least IMAGE", one.press(true, true), 1);
        due("body(0, 1)", one.body(0, 1), 4096);
        // 1 is put first; 2 becomes 1; ADDR takes two words wherever it is
        LinkPress x = functions(4);
        int[][][] rows = {f(i(ADDR, 6, 3), i(PRINT), i(ADDR, 7, 3), i(RET)), f(i(PRINT), i(RET)), f(i(PRINT), i(RET)),
            f(i(RET))};
        for (int f : new int[] {1, 3, 0, 2}) {
            for (int[] sign : rows[f]) {
                put(x, f, sign);
            }
        }
        due("press(true, false)", x.press(true, false), 6 + 2 + 1);
        int[] address = {4096, 4120, 4120, 4128};
        for (int f = 0; f < 4; f++) {
            due("body(" + f + ", 1)", x.body(f, 1), address[f]);
        }
        due("word(2)", x.word(2), 0x73);
        due("word(5)", x.word(5), 0x8067);
        due("press(false, false)", x.press(false, false), 6 + 2 + 2 + 1);
        due("body(3, 1)", x.body(3, 1), 4096 + 40);
        // two ROUTINES: 5 of 2, and behind it 4 of 2
        LinkPress y = letters("abcd.vwxyz.", "vwxyz.abcd.");
        due("count(3)", y.count(3), 4 + 4 + 6 + 5);
        due("routine(0, 3)", y.routine(0, 3), 4096 + 32);
        due("routine(1, 3)", y.routine(1, 3), 4096 + 32 + 24);
        due("the first of ROUTINE 0", y.word(8), 'v' << 20 | 7 << 15 | 6 << 7 | 0x13);
        due("the first of ROUTINE 1", y.word(14), 'a' << 20 | 7 << 15 | 6 << 7 | 0x13);
    }

    /** 300 instructions, all of them ADDR that may be. */
    private void largestImage() {
        int[][][] rows = new int[8][][];
        for (int f = 0; f < 8; f++) {
            rows[f] = join(times(f < 7 ? 39 : 19, i(ADDR, 6, 7)), f(f < 7 ? i(TAIL, f + 1) : i(RET)));
        }
        LinkPress x = program(rows);
        due("count(1)", x.count(1), 300);
        due("press(false, true)", x.press(false, true), 592);
        due("body(7, 1)", x.body(7, 1), 4096 + 4 * 7 * 79);
        due("the last word", x.word(591), 0x8067);
        due("a word more", x.word(592), 0);
        due("run(1, 592)", x.run(1, 592), ENDS);
        due("ran(1, 1)", x.ran(1, 1), 592);
        due("register(1, 6)", x.register(1, 6), 4096 + 4 * 7 * 79);
    }

    private void meansTheBody() {
        sentence("CALL, TAIL, ADDR mean the BODY of the FUNCTION.");
        // 1 and 2 are alike and the BODY of both is 2; it lies behind FUNCTION 0
        LinkPress x = program(f(i(CALL, 1), i(ADDR, 6, 2), i(TAIL, 1)), f(i(RET)), f(i(RET)));
        due("press(true, false)", x.press(true, false), 5);
        due("body(1, 1)", x.body(1, 1), 4112);
        due("jal x1", x.word(0), 16 << 20 | 1 << 7 | 0x6F);
        due("lui x6", x.word(1), 1 << 12 | 6 << 7 | 0x37);
        due("addi x6", x.word(2), 16 << 20 | 6 << 15 | 6 << 7 | 0x13);
        due("jal x0", x.word(3), 4 << 20 | 0x6F);
        // not FOLDED: each has its own
        due("press(false, false)", x.press(false, false), 6);
        due("jal x1", x.word(0), 16 << 20 | 1 << 7 | 0x6F);
        due("addi x6", x.word(2), 20 << 20 | 6 << 15 | 6 << 7 | 0x13);
        // the BODY may be FUNCTION 0, and what is within it
        LinkPress y = program(f(i(CALL, 1), i(RET)), f(i(CALL, 0), i(RET)));
        due("press(true, false)", y.press(true, false), 2);
        due("jal x1 to itself", y.word(0), 1 << 7 | 0x6F);
    }

    private void occurrences() {
        sentence("An OCCURRENCE is one word: jal x5 to its ROUTINE, which is its INSTRUCTIONS and jalr x0, 0(x5).");
        LinkPress x = letters("abcd.", "xabcd.");
        due("count(3)", x.count(3), 2 + 3 + 5);
        due("occurrence(0, 0, 2)", x.occurrence(0, 0, 2), 4096);
        due("occurrence(0, 1, 2)", x.occurrence(0, 1, 2), 4108);
        due("routine(0, 3)", x.routine(0, 3), 4116);
        due("jal x5 to 4116", x.word(0), 20 << 20 | 5 << 7 | 0x6F);
        due("jal x5 to 4116", x.word(3), 8 << 20 | 5 << 7 | 0x6F);
        due("ret behind it", x.word(4), 0x8067);
        for (int k = 0; k < 4; k++) {
            due("word(" + (5 + k) + ")", x.word(5 + k), 'a' + k << 20 | 7 << 15 | 6 << 7 | 0x13);
        }
        due("jalr x0, 0(x5)", x.word(9), 5 << 15 | 0x67);
        due("run(1, 9)", x.run(1, 9), ENDS);
        due("ran(1, 1)", x.ran(1, 1), 7);
        due("register(1, 5)", x.register(1, 5), 4100);
        // ROUTINES of all that may be in one: SW, LW, PRINT, LUI
        int[][] row = f(i(LUI, 3, 16), i(ADDI, 10, 10, 3), i(SW, 10, 3, 8), i(LW, 11, 3, 8), i(PRINT));
        LinkPress y = program(join(row, row, f(i(RET))));
        due("press(true, true)", y.press(true, true), 9);
        due("run(1, 99)", y.run(1, 99), ENDS);
        due("ran(1, 1)", y.ran(1, 1), 2 * 7 + 1);
        due("printed(1, 1)", y.printed(1, 1), 6);
        due("register(1, 11)", y.register(1, 11), 6);
    }

    /** A ROUTINE 511, 512 and 513 words behind its first OCCURRENCE. */
    private void farRoutine() {
        int[] jal = {0x7FC002EF, 0x001002EF, 0x005002EF};
        for (int more = 0; more < 3; more++) {
            int[][][] rows = new int[16][][];
            Arrays.fill(rows, join(times(19, i(ADDR, 7, 0)), f(i(RET))));
            rows[0] = row("abcd.");
            rows[1] = row("abcd.");
            rows[15] = times(1 + more, i(RET));
            rows[14] = join(times(18, i(ADDR, 7, 0)), f(i(PRINT), i(RET)));
            LinkPress x = program(rows);
            due("press", x.press(false, true), 511 + more + 5);
            due("routine(0, 3)", x.routine(0, 3), 4096 + 4 * (511 + more));
            due("jal x5", x.word(0), jal[more]);
            due("run(1, 99)", x.run(1, 99), ENDS);
            due("ran(1, 1)", x.ran(1, 1), 7);
        }
    }

    private void goesToAnOccurrence() {
        sentence("(What goes to the first of an OCCURRENCE goes to that word.)");
        for (int n = BEQ; n <= JUMP; n++) {
            int[] back = n == JUMP ? i(JUMP, 2) : i(n, 0, 0, 2);
            int[] on = n == JUMP ? i(JUMP, 7) : i(n, 0, 0, 7);
            // 0: on to 7; 1 RET; 2 to 5: abcd; 6 RET; 7 to 10: abcd; 11: back to 2; 12 RET
            LinkPress x = program(join(f(on, i(RET)), row("abcd."), row("abcd"), f(back, i(RET))));
            due("press(true, true)", x.press(true, true), 7 + 5);
            due("occurrence(0, 0, 2)", x.occurrence(0, 0, 2), 4104);
            due("occurrence(0, 1, 2)", x.occurrence(0, 1, 2), 4112);
            int f3 = new int[] {0, 1, 4, 5, 6, 7, 0}[n - BEQ];
            // on by 16 bytes, back by 12
            due(n + " on to it", x.word(0), n == JUMP ? 16 << 20 | 0x6F : 16 << 7 | f3 << 12 | 0x63);
            due(n + " back to it", x.word(5), n == JUMP ? 0xFF5FF06F : 0xFE000A63 | f3 << 12 | 0x80);
        }
        LinkPress y = program(join(row("abcd"), f(i(JUMP, 7), i(RET), i(RET)), row("abcd"), f(i(JUMP, 0))));
        // 7 STEPS from one JUMP to the other: jal x5, four, jalr x0, 0(x5), JUMP
        ofImage("on", y, 7, FUEL, 7, 4112);
        ofImage("and back", y, 14, FUEL, 14, 4096);
        ofImage("and on again", y, 21, FUEL, 21, 4112);
    }

    /** What goes past an OCCURRENCE goes as far as the words are apart, not the INSTRUCTIONS. */
    private void goesPastAnOccurrence() {
        LinkPress x = program(join(f(i(BEQ, 0, 0, 9)), row("abcdabcd"), f(i(JUMP, 0))));
        due("press(true, true)", x.press(true, true), 4 + 5);
        due("BEQ past two", x.word(0), 12 << 7 | 0x63);
        due("JUMP past two", x.word(3), 0xFF5FF06F);
        LinkPress y = program(f(i(BEQ, 0, 0, 3), i(ADDR, 6, 0), i(ADDR, 7, 0), i(JUMP, 0)));
        due("press(true, true)", y.press(true, true), 6);
        due("BEQ past two ADDR", y.word(0), 20 << 7 | 0x63);
        due("JUMP past two ADDR", y.word(5), 0xFEDFF06F);
    }

    private void refused(String name, int why, int[][]... functions) {
        for (int k = 0; k < 4; k++) {
            due(name, program(functions).press((k & 1) == 0, (k & 2) == 0), why);
        }
    }

    private void theLeastRefusal() {
        sentence("PRESS refuses, the least of:");
        refused("2, 3 and 4", -2, f(i(TAIL, 9)), f(i(JUMP, 7)), f(i(PRINT)));
        refused("4, then 2", -2, f(i(TAIL, 9)), f());
        refused("3, then 2", -2, f(i(JUMP, 1)), f());
        refused("4, then 3", -3, f(i(TAIL, 9)), f(i(JUMP, 1)));
        refused("3, then 4", -3, f(i(JUMP, 1)), f(i(TAIL, 9)));
        refused("4 and 3 of one FUNCTION", -3, f(i(CALL, 9), i(BEQ, 0, 0, 3), i(RET)));
    }

    private void noFunction() {
        sentence("1 there is no FUNCTION;");
        LinkPress x = new LinkPress();
        due("press of a new one", x.press(true, true), -1);
        x.function();
        x.put(0, RET, 0, 0, 0);
        due("press of one", x.press(true, true), 1);
        x.clear();
        due("press when it is cleared", x.press(false, false), -1);
    }

    private void openEnds() {
        sentence("2 a FUNCTION has no INSTRUCTION, or the last one is none of JUMP, TAIL, RET;");
        refused("an empty one", -2, f());
        refused("the last is empty", -2, f(i(RET)), f());
        refused("the first is empty", -2, f(), f(i(RET)));
        for (int n = ADD; n <= PRINT; n++) {
            boolean closes = n == JUMP || n == TAIL || n == RET;
            refused(n + " alone", closes ? 1 : -2, f(i(n)));
            refused(n + " behind RET", closes ? 2 : -2, f(i(RET), i(n)));
        }
        int[][][] rows = new int[24][][];
        Arrays.fill(rows, f(i(RET)));
        rows[23] = f(i(RET), i(ICALL, 6));
        refused("FUNCTION 23", -2, rows);
    }

    private void noSuchPlace() {
        sentence("3 a BRANCH or JUMP to an INSTRUCTION that there is not;");
        for (int n = BEQ; n <= BGEU; n++) {
            refused(n + " to the last", 2, f(i(n, 6, 7, 1), i(RET)));
            refused(n + " behind the last", -3, f(i(n, 6, 7, 2), i(RET)));
            refused(n + " to 39", -3, f(i(n, 6, 7, 39), i(RET)));
        }
        refused("JUMP to itself", 1, f(i(JUMP, 0)));
        refused("JUMP behind the last", -3, f(i(JUMP, 1)));
        refused("JUMP to the last of 40", 40, join(f(i(JUMP, 39)), times(39, i(RET))));
        refused("JUMP to the last of 39", -3, join(f(i(JUMP, 39)), times(38, i(RET))));
        refused("there is one in another FUNCTION", -3, f(i(JUMP, 1)), f(i(RET), i(RET)));
        refused("JUMP of the last FUNCTION", -3, f(i(RET), i(RET)), f(i(JUMP, 1)));
    }

    private void noSuchFunction() {
        sentence("4 a CALL, TAIL, ADDR of a FUNCTION that there is not.");
        refused("CALL of the last", 3, f(i(CALL, 1), i(RET)), f(i(RET)));
        refused("CALL behind the last", -4, f(i(CALL, 2), i(RET)), f(i(RET)));
        refused("TAIL of the last", 2, f(i(TAIL, 1)), f(i(RET)));
        refused("TAIL behind the last", -4, f(i(TAIL, 2)), f(i(RET)));
        refused("ADDR of the last", 4, f(i(ADDR, 6, 1), i(RET)), f(i(RET)));
        refused("ADDR behind the last", -4, f(i(ADDR, 6, 2), i(RET)), f(i(RET)));
        refused("ADDR of 23, never come to", -4, f(i(RET), i(ADDR, 6, 23), i(RET)));
        refused("of the last FUNCTION", -4, f(i(RET)), f(i(TAIL, 2)));
        LinkPress x = program(f(i(TAIL, 1)));
        due("press", x.press(true, true), -4);
        x.function();
        due("press of an empty one", x.press(true, true), -2);
        x.put(1, RET, 0, 0, 0);
        due("press", x.press(true, true), 2);
    }

    private void begin() {
        sentence("RUN of the IMAGE: RV32I: registers 0, pc the address of the BODY of FUNCTION 0;");
        for (int k = 0; k < 32; k++) {
            if (k != 5) {
                ofImage("register " + k, program(f(i(BNE, k, 0, 2), i(RET), i(JUMP, 2))), 9, ENDS, 2, 0);
            }
        }
        // the BODY of 0 is 2, which lies behind 1
        LinkPress x = program(f(i(ADDI, 8, 8, 1), i(RET)), f(i(PRINT), i(ADDR, 6, 2), i(RET)),
            f(i(ADDI, 8, 8, 1), i(RET)));
        for (int round = 0; round < 2; round++) {
            ofImage("round " + round, x, 9, ENDS, 2, 0);
            due("body(0, 1)", x.body(0, 1), 4112);
            due("register(1, 8)", x.register(1, 8), 1);
            due("nothing is printed", x.ran(1, 2), 0);
        }
        ofImage("one step", x, 1, FUEL, 1, 4116);
    }

    private void steps() {
        sentence("each word done is a STEP;");
        ofImage("ADDR is two", program(f(i(ADDR, 6, 0), i(RET))), 9, ENDS, 3, 0);
        ofImage("ADDR by half", program(f(i(ADDR, 6, 0), i(RET))), 1, FUEL, 1, 4100);
        // jal x5, four, jalr x0, 0(x5), twice, and ret
        ofImage("a ROUTINE", program(row("abcdabcd.")), 99, ENDS, 13, 0);
        ofImage("within a ROUTINE", program(row("abcdabcd.")), 3, FUEL, 3, 4096 + 12 + 8);
        ofImage("PRINT, branches, JUMP", program(f(i(PRINT), i(BNE, 0, 0, 0), i(BEQ, 0, 0, 4), i(RET), i(JUMP, 3))),
            99, ENDS, 5, 0);
    }

    private void ending() {
        sentence("it ENDS when the pc is 0.");
        ofImage("by RET", program(f(i(RET))), 1, ENDS, 1, 0);
        ofImage("by ICALL of 0", program(f(i(ICALL, 6), i(RET))), 1, ENDS, 1, 0);
        ofImage("by ICALL of 1: RV32I has no lowest bit there", icallOf(0, 1), 9, ENDS, 3, 0);
        ofImage("by RET of 1", program(f(i(ADDI, 1, 0, 1), i(RET))), 9, ENDS, 2, 0);
        ofImage("by RET of 0 that was made", program(f(i(ADDI, 1, 0, 0), i(RET))), 9, ENDS, 2, 0);
        ofImage("by the last STEP of the FUEL", program(f(i(PRINT), i(RET))), 2, ENDS, 2, 0);
        ofImage("a STEP too few", program(f(i(PRINT), i(RET))), 1, FUEL, 1, 4100);
        LinkPress x = program(f(i(CALL, 1), i(RET)), f(i(RET)));
        ofImage("RET behind a CALL", x, 9, FUEL, 9, 4100);
    }

    /** 4 words, of which the third goes to what the first two make. */
    private LinkPress icallOf(int upper, int low) {
        return program(f(i(LUI, 6, upper), i(ADDI, 6, 6, low), i(ICALL, 6), i(RET)));
    }

    private void noWord() {
        sentence("It BREAKS (not done, no STEP) where the pc is no word of the IMAGE,");
        ofImage("the last word", icallOf(1, 12), 9, FUEL, 9, 4108);
        ofImage("behind the last", icallOf(1, 16), 9, BREAKS, 3, 4112);
        ofImage("the first word", icallOf(1, 0), 9, FUEL, 9, 4096);
        ofImage("ahead of the first", icallOf(1, -4), 9, BREAKS, 3, 4092);
        ofImage("between two", icallOf(1, 2), 9, BREAKS, 3, 4098);
        ofImage("the lowest bit is no part of it", icallOf(1, 13), 9, FUEL, 9, 4108);
        ofImage("4", icallOf(0, 4), 9, BREAKS, 3, 4);
        ofImage("2 is not 0", icallOf(0, 2), 9, BREAKS, 3, 2);
        ofImage("-2", icallOf(0, -1), 9, BREAKS, 3, -2);
        ofImage("-4", icallOf(0, -4), 9, BREAKS, 3, -4);
        ofImage("LEAST", icallOf(524288, 0), 9, BREAKS, 3, LEAST);
        ofImage("MOST", icallOf(524288, -1), 9, BREAKS, 3, MOST - 1);
        ofImage("4096 and 2 to the 30th", icallOf(0x40001, 0), 9, BREAKS, 3, 0x40001000);
        ofImage("4096 and 2 to the 31st", icallOf(0x80001, 0), 9, BREAKS, 3, 0x80001000);
        ofImage("MEMORY has no words of the IMAGE", icallOf(16, 0), 9, BREAKS, 3, 65536);
        // what was a word of an earlier IMAGE is none of this one
        LinkPress x = icallOf(1, 16);
        x.put(0, RET, 0, 0, 0);
        ofImage("the fifth of five words goes back to the fourth", x, 9, FUEL, 9, 4108);
        x.clear();
        x.function();
        for (int[] sign : f(i(LUI, 6, 1), i(ADDI, 6, 6, 16), i(ICALL, 6), i(RET))) {
            put(x, 0, sign);
        }
        ofImage("a fifth of four words", x, 9, BREAKS, 3, 4112);
        due("register 1 is of the jump that was done", x.register(1, 1), 4108);
    }

    private void outsideOfMemory() {
        sentence("or at lw, sw at no multiple of 4, or outside of MEMORY (0 at first).");
        for (int n : new int[] {LW, SW}) {
            for (int low : new int[] {0, 4, 252}) {
                ofImage(n + " at 65536 and " + low, program(f(i(LUI, 3, 16), i(n, 8, 3, low), i(RET))), 9, ENDS, 3, 0);
            }
            for (int low : new int[] {-2048, -4, -1, 1, 2, 3, 253, 254, 255, 256, 260, 2047}) {
                LinkPress x = program(f(i(LUI, 3, 16), i(n, 3, 3, low), i(RET)));
                ofImage(n + " at 65536 and " + low, x, 9, BREAKS, 1, 4100);
                due("it is not done", x.register(1, 3), 65536);
                due("nor here", x.memory(1, 0) + x.memory(1, 63), 0);
            }
            for (int at : new int[] {0, -4, LEAST, MOST - 3, LEAST + 65536, 65536 + 0x40000000, -65536, 4096}) {
                ofImage(n + " at " + at, program(join(load(7, at), f(i(n, 8, 7, 0), i(RET)))), 9, BREAKS, 2, 4104);
            }
            ofImage(n + " beyond MOST", program(join(load(7, MOST), f(i(n, 8, 7, 1), i(RET)))), 9, BREAKS, 2, 4104);
        }
        // 0 at first, in each RUN
        LinkPress x = program(f(i(LUI, 3, 16), i(LW, 10, 3, 252), i(ADDI, 10, 10, 1), i(SW, 10, 3, 252), i(RET)));
        for (int round = 0; round < 2; round++) {
            ofImage("round " + round, x, 9, ENDS, 5, 0);
            due("memory(1, 63)", x.memory(1, 63), 1);
        }
    }

    private void constants() {
        sentence("The constants: `NONE = -1`: None.");
        due("NONE", LinkPress.NONE, -1);
    }
}
