import java.util.Arrays;

/** I. PROGRAMS: what may be put, and what each instruction does at the edges of its numbers. */
final class ProgramsPart extends Part {
    ProgramsPart(Checks checks) {
        super(checks);
    }

    void check() {
        limits();
        limitOfAll();
        orderOfRows();
        registers();
        numbers();
        ofTwoRegisters();
        ofSmallNumbers();
        ofShifts();
        ofUpperNumbers();
        loads();
        stores();
        branches();
        jumps();
        callsAndTails();
        returns();
        addresses();
        callsByAddress();
        prints();
        notTold();
        memory();
    }

    private void limits() {
        sentence("FUNCTIONS 0 to 23, each a row of INSTRUCTIONS, 40 at most, 300 in all.");
        LinkPress x = functions(23);
        due("the 24th function()", x.function(), 23);
        due("the 25th function()", x.function(), NONE);
        due("count(0)", x.count(0), 24);
        for (int f : new int[] {0, 23}) {
            for (int k = 0; k < 40; k++) {
                due("put at FUNCTION " + f, x.put(f, PRINT, 0, 0, 0), k);
            }
            due("a 41st", x.put(f, PRINT, 0, 0, 0), NONE);
            due("about(" + f + ", 0)", x.about(f, 0), 40);
        }
        due("put at FUNCTION 24", x.put(24, RET, 0, 0, 0), NONE);
        due("put at FUNCTION -1", x.put(-1, RET, 0, 0, 0), NONE);
        due("another has room yet", x.put(1, RET, 0, 0, 0), 0);
        due("count(1)", x.count(1), 81);
    }

    private void limitOfAll() {
        LinkPress x = functions(9);
        for (int f : new int[] {8, 0, 4, 1, 7, 2, 5}) {
            for (int k = 0; k < 40; k++) {
                due("put at FUNCTION " + f, x.put(f, PRINT, 0, 0, 0), k);
            }
        }
        for (int k = 0; k < 20; k++) {
            due("put at FUNCTION 3", x.put(3, PRINT, 0, 0, 0), k);
        }
        due("count(1)", x.count(1), 300);
        due("a 301st", x.put(3, PRINT, 0, 0, 0), NONE);
        due("a 301st, the first of its FUNCTION", x.put(6, RET, 0, 0, 0), NONE);
        due("count(1) stays", x.count(1), 300);
        due("about(3, 0)", x.about(3, 0), 20);
        due("about(6, 0)", x.about(6, 0), 0);
        due("after clear()", x.clear() + x.function() + x.put(0, RET, 0, 0, 0), 9);
    }

    /** Each FUNCTION grows at its own end, whichever grew before. */
    private void orderOfRows() {
        LinkPress x = functions(12);
        for (int k = 0; k < 14; k++) {
            for (int f = 11; f >= 0; f--) {
                due("put at FUNCTION " + f, x.put(f, ADDI, 6, 0, 100 * f + k), k);
            }
        }
        for (int f = 0; f < 12; f++) {
            x.put(f, RET, 0, 0, 0);
        }
        due("press", x.press(false, false), 180);
        for (int k = 0; k < 180; k++) {
            int number = 100 * (k / 15) + k % 15;
            due("word(" + k + ")", x.word(k), k % 15 == 14 ? 0x8067 : number << 20 | 6 << 7 | 0x13);
        }
    }

    private void registers() {
        sentence("REGISTERS 0 to 31, but 5 (t0) can't be named.");
        for (int n = ADD; n <= PRINT; n++) {
            for (int k = 0; k < registersOf(n); k++) {
                LinkPress x = functions(1);
                int there = 0;
                for (int r = -1; r <= 32; r++) {
                    boolean is = r >= 0 && r <= 31 && r != 5;
                    due("put of " + n + " with register " + r, putWith(x, n, k, r), is ? there : NONE);
                    there += is ? 1 : 0;
                }
                due("put of " + n + " with register " + LEAST, putWith(x, n, k, LEAST), NONE);
                due("put of " + n + " with register " + MOST, putWith(x, n, k, MOST), NONE);
                due("about(0, 0)", x.about(0, 0), 31);
            }
        }
    }

    /** One of a, b, c is the value, the others are 0. */
    private static int putWith(LinkPress x, int n, int k, int value) {
        return x.put(0, n, k == 0 ? value : 0, k == 1 ? value : 0, k == 2 ? value : 0);
    }

    private void numbers() {
        sentence("By numbers, with a, b, c:");
        for (int n = ADD; n <= PRINT; n++) {
            due("put of number " + n, functions(1).put(0, n, 0, 0, 0), 0);
        }
        for (int n : new int[] {-1, 35, 36, LEAST, MOST}) {
            LinkPress x = functions(1);
            due("put of number " + n, x.put(0, n, 0, 0, 0), NONE);
            due("about(0, 0)", x.about(0, 0), 0);
        }
    }

    /** From low to high all of a, b or c may be, what is outside may not, and then nothing comes. */
    private void edges(int n, int k, int low, int high) {
        LinkPress x = functions(1);
        String name = "put of " + n + " with " + "abc".charAt(k) + " ";
        due(name + low, putWith(x, n, k, low), 0);
        due(name + high, putWith(x, n, k, high), 1);
        due(name + (low - 1), putWith(x, n, k, low - 1), NONE);
        due(name + (high + 1), putWith(x, n, k, high + 1), NONE);
        due(name + LEAST, putWith(x, n, k, LEAST), NONE);
        due(name + MOST, putWith(x, n, k, MOST), NONE);
        due("about(0, 0)", x.about(0, 0), 2);
    }

    /** Register 8 by one instruction from 6 and 7, as told and of the image. */
    private void reckons(int[] sign, int six, int seven, int want) {
        LinkPress x = program(join(load(6, six), load(7, seven), f(sign, i(RET))));
        ends(sign[0] + " of " + six + " and " + (sign[0] <= SLTU ? seven : sign[3]), x, 8, want);
    }

    private void ofTwoRegisters() {
        sentence("0 ADD, 1 SUB, 2 AND, 3 OR, 4 XOR, 5 SLL, 6 SRL, 7 SRA, 8 SLT, 9 SLTU: register a from b, c.");
        int[] want = {-5 + 3, -5 - 3, -5 & 3, -5 | 3, -5 ^ 3, -40, 0x1FFFFFFF, -1, 1, 0};
        for (int n = ADD; n <= SLTU; n++) {
            reckons(i(n, 8, 6, 7), -5, 3, want[n]);
        }
        int[][] edges = {
            {ADD, MOST, 1, LEAST}, {ADD, LEAST, -1, MOST}, {ADD, LEAST, LEAST, 0}, {ADD, -1, 1, 0},
            {SUB, LEAST, 1, MOST}, {SUB, 0, LEAST, LEAST}, {SUB, MOST, -1, LEAST}, {SUB, 0, 1, -1},
            {AND, LEAST, MOST, 0}, {AND, -1, LEAST, LEAST}, {OR, LEAST, MOST, -1}, {XOR, -1, LEAST, MOST},
            {SLL, 1, 0, 1}, {SLL, 3, 31, LEAST}, {SLL, 5, 32, 5}, {SLL, 5, 33, 10}, {SLL, 1, -1, LEAST},
            {SRL, -1, 0, -1}, {SRL, LEAST, 31, 1}, {SRL, LEAST, 32, LEAST}, {SRL, -2, 33, MOST},
            {SRL, -1, -1, 1}, {SRA, LEAST, 0, LEAST}, {SRA, LEAST, 31, -1}, {SRA, LEAST, 32, LEAST},
            {SRA, -64, 34, -16}, {SRA, MOST, 31, 0}, {SRA, MOST, -2, 1},
            {SLT, LEAST, MOST, 1}, {SLT, MOST, LEAST, 0}, {SLT, 7, 7, 0}, {SLT, LEAST, LEAST, 0},
            {SLT, -1, 0, 1}, {SLT, 0, -1, 0}, {SLTU, 0, -1, 1}, {SLTU, -1, 0, 0}, {SLTU, -1, -1, 0},
            {SLTU, MOST, LEAST, 1}, {SLTU, LEAST, MOST, 0}, {SLTU, 0, 1, 1}, {SLTU, 0, 0, 0}};
        for (int[] edge : edges) {
            reckons(i(edge[0], 8, 6, 7), edge[1], edge[2], edge[3]);
        }
        ends("a is b and c too", program(join(load(8, 0x40000001), f(i(ADD, 8, 8, 8), i(RET)))), 8,
            0x80000002);
    }

    private void ofSmallNumbers() {
        sentence("10 ADDI, 11 ANDI, 12 ORI, 13 XORI, 14 SLTI, 15 SLTIU: register a from b and c, -2048 to 2047.");
        for (int n = ADDI; n <= SLTIU; n++) {
            edges(n, 2, -2048, 2047);
        }
        int[][] edges = {
            {ADDI, 5, -2048, -2043}, {ADDI, 5, 2047, 2052}, {ADDI, MOST, 1, LEAST},
            {ADDI, LEAST, -1, MOST}, {ADDI, LEAST, 0, LEAST}, {ANDI, -1, -2048, -2048}, {ANDI, -1, 2047, 2047},
            {ANDI, LEAST, -1, LEAST}, {ORI, 0, -2048, -2048}, {ORI, 5, 2047, 2047}, {ORI, LEAST, 1, LEAST + 1},
            {XORI, -1, -2048, 2047}, {XORI, 5, -1, -6}, {XORI, 0, 2047, 2047}, {SLTI, -2049, -2048, 1},
            {SLTI, -2048, -2048, 0}, {SLTI, 2046, 2047, 1}, {SLTI, 2047, 2047, 0}, {SLTI, LEAST, 0, 1},
            {SLTI, MOST, -1, 0}, {SLTIU, 5, -1, 1}, {SLTIU, -1, -1, 0}, {SLTIU, -2049, -2048, 1},
            {SLTIU, -2048, -2048, 0}, {SLTIU, 0, 0, 0}, {SLTIU, 0, 1, 1}, {SLTIU, LEAST, 2047, 0}};
        for (int[] edge : edges) {
            reckons(i(edge[0], 8, 6, edge[2]), edge[1], 0, edge[3]);
        }
    }

    private void ofShifts() {
        sentence("16 SLLI, 17 SRLI, 18 SRAI: c is 0 to 31.");
        for (int n = SLLI; n <= SRAI; n++) {
            edges(n, 2, 0, 31);
            reckons(i(n, 8, 6, 0), -5, 0, -5);
        }
        reckons(i(SLLI, 8, 6, 31), 5, 0, LEAST);
        reckons(i(SLLI, 8, 6, 31), 4, 0, 0);
        reckons(i(SRLI, 8, 6, 31), LEAST, 0, 1);
        reckons(i(SRLI, 8, 6, 31), MOST, 0, 0);
        reckons(i(SRAI, 8, 6, 31), LEAST, 0, -1);
        reckons(i(SRAI, 8, 6, 31), MOST, 0, 0);
        reckons(i(SRLI, 8, 6, 4), -16, 0, 0x0FFFFFFF);
        reckons(i(SRAI, 8, 6, 4), -16, 0, -1);
    }

    private void ofUpperNumbers() {
        sentence("19 LUI: register a, b 0 to 1048575.");
        edges(LUI, 1, 0, 1048575);
        int[][] edges = {{0, 0}, {1, 4096}, {524287, 0x7FFFF000}, {524288, LEAST}, {1048575, -4096}};
        for (int[] edge : edges) {
            reckons(i(LUI, 8, edge[0]), 0, 0, edge[1]);
        }
    }

    private void loads() {
        sentence("20 LW: register a from memory at b and c (-2048 to 2047).");
        edges(LW, 2, -2048, 2047);
        int[][] ways = {{65536 + 2048, -2048}, {65536 + 4, -4}, {65536, 0}, {65536 - 2044, 2044}, {63489, 2047}};
        for (int[] way : ways) {
            ends("LW at " + way[0] + " and " + way[1], program(join(load(3, 65536), load(7, way[0]),
                f(i(ADDI, 6, 0, 77), i(SW, 6, 3, 0), i(LW, 8, 7, way[1]), i(RET)))), 8, 77);
        }
        ends("LW of a into a", program(join(load(3, 65536), f(i(SW, 3, 3, 0), i(LW, 3, 3, 0), i(RET)))), 3,
            65536);
    }

    private void stores() {
        sentence("21 SW: register a into memory at b and c.");
        edges(SW, 2, -2048, 2047);
        int[][] ways = {{65536 + 2048, -2048, 0}, {65536, 0, 0}, {65536, 252, 63}, {63492, 2044, 0},
            {65788 - 2047, 2047, 63}, {65788 + 2048, -2048, 63}};
        for (int[] way : ways) {
            LinkPress x = program(join(load(7, way[0]), f(i(ADDI, 6, 0, 78), i(SW, 6, 7, way[1]), i(RET))));
            ends("SW at " + way[0] + " and " + way[1], x, 6, 78);
            for (int which = 0; which <= 1; which++) {
                due("memory(" + which + ", " + way[2] + ")", x.memory(which, way[2]), 78);
                due("the other end", x.memory(which, 63 - way[2]), 0);
            }
        }
    }

    private void branches() {
        sentence("22 BEQ, 23 BNE, 24 BLT, 25 BGE, 26 BLTU, 27 BGEU: registers a, b: if so, "
            + "to INSTRUCTION c (0 to 39) of the FUNCTION.");
        // for -5 and 3, for two of the same, for 3 and -5; then LEAST and MOST, MOST and LEAST
        int[][] so = {{0, 1, 0, 0, 0}, {1, 0, 1, 1, 1}, {1, 0, 0, 1, 0}, {0, 1, 1, 0, 1}, {0, 0, 1, 0, 1},
            {1, 1, 0, 1, 0}};
        int[][] of = {{-5, 3}, {3, 3}, {3, -5}, {LEAST, MOST}, {MOST, LEAST}};
        for (int n = BEQ; n <= BGEU; n++) {
            edges(n, 2, 0, 39);
            for (int k = 0; k < of.length; k++) {
                LinkPress x = program(join(load(6, of[k][0]), load(7, of[k][1]),
                    f(i(ADDI, 8, 0, 1), i(n, 6, 7, 7), i(ADDI, 8, 0, 0), i(RET))));
                ends(n + " of " + of[k][0] + " and " + of[k][1], x, 8, so[n - BEQ][k]);
            }
        }
        // from the first place to the last and back, and to itself
        LinkPress x = program(join(f(i(BEQ, 8, 0, 39), i(RET)), times(37, i(PRINT)), f(i(TAIL, 1))),
            f(i(ADDI, 8, 8, 1), i(BNE, 8, 0, 2), i(RET)));
        ends("to 39", x, 8, 1);
        due("nothing between", x.ran(0, 2) + x.ran(1, 2), 0);
        LinkPress y = program(f(i(ADDI, 8, 8, 1), i(SLTI, 9, 8, 3), i(BNE, 9, 0, 0), i(RET)));
        ends("back to 0", y, 8, 3);
        LinkPress z = program(f(i(PRINT), i(BEQ, 0, 0, 1), i(RET)));
        told("to itself", z, 9, FUEL, 9, 0, 1);
        ofImage("to itself", z, 9, FUEL, 9, 4100);
    }

    private void jumps() {
        sentence("28 JUMP: to INSTRUCTION a.");
        edges(JUMP, 0, 0, 39);
        LinkPress x = program(join(f(i(JUMP, 39), i(RET)), times(37, i(PRINT)), f(i(JUMP, 1))));
        told("there and back", x, 9, ENDS, 3, NONE, NONE);
        ofImage("there and back", x, 9, ENDS, 3, 0);
        LinkPress y = program(f(i(JUMP, 0)));
        told("to itself", y, 9, FUEL, 9, 0, 0);
        ofImage("to itself", y, 9, FUEL, 9, 4096);
    }

    private void callsAndTails() {
        sentence("29 CALL, 30 TAIL: FUNCTION a (0 to 23).");
        for (int n : new int[] {CALL, TAIL}) {
            edges(n, 0, 0, 23);
            int[][][] rows = new int[24][][];
            Arrays.fill(rows, f(i(RET)));
            rows[0] = f(i(ADDI, 9, 1, 0), i(n, 23), i(ADDI, 1, 9, 0), i(RET));
            rows[23] = f(i(ADDI, 8, 0, 23), i(RET));
            LinkPress x = program(rows);
            ends(n + " of FUNCTION 23", x, 8, 23);
            due("steps", x.ran(0, 1), n == CALL ? 6 : 4);
            due("steps of the image", x.ran(1, 1), n == CALL ? 6 : 4);
            LinkPress y = program(f(i(ADDI, 8, 8, 1), i(n, 0), i(RET)));
            told(n + " of itself", y, 8, FUEL, 8, 0, 0);
            ofImage(n + " of itself", y, 8, FUEL, 8, 4096);
        }
    }

    private void returns() {
        sentence("31 RET.");
        LinkPress x = program(f(i(RET, LEAST, 5, MOST)));
        told("nothing but RET", x, 1, ENDS, 1, NONE, NONE);
        ofImage("nothing but RET", x, 1, ENDS, 1, 0);
    }

    private void addresses() {
        sentence("32 ADDR: register a is the address of FUNCTION b (0 to 23).");
        edges(ADDR, 1, 0, 23);
        int[][][] rows = new int[24][][];
        Arrays.fill(rows, f(i(RET)));
        rows[1] = f(i(ADDR, 31, 0), i(ADDR, 30, 23), i(RET));
        rows[0] = f(i(TAIL, 1));
        LinkPress x = program(rows);
        due("press", x.press(true, true), 7);
        due("run(1, 9)", x.run(1, 9), ENDS);
        due("the address of FUNCTION 0", x.register(1, 31), 4096);
        due("the address of FUNCTION 23", x.register(1, 30), 4096 + 24);
    }

    private void callsByAddress() {
        sentence("33 ICALL: what register a is the address of.");
        for (int r : new int[] {1, 31}) {
            LinkPress x = program(
                f(i(ADDI, 9, 1, 0), i(ADDR, r, 2), i(ICALL, r), i(ADDI, 1, 9, 0), i(RET)),
                f(i(ADDI, 8, 0, 1), i(RET)), f(i(ADDI, 8, 0, 2), i(RET)));
            ends("by register " + r, x, 8, 2);
            due("steps", x.ran(0, 1), 7);
            due("steps of the image", x.ran(1, 1), 8);
        }
    }

    private void prints() {
        sentence("34 PRINT: register 10.");
        for (int number : new int[] {0, -1, LEAST, MOST}) {
            LinkPress x = program(join(load(10, number), load(11, 5), f(i(PRINT, 11, 11, 11), i(RET))));
            ends("PRINT of " + number, x, 10, number);
            for (int which = 0; which <= 1; which++) {
                due("ran(" + which + ", 2)", x.ran(which, 2), 1);
                due("printed(" + which + ", 0)", x.printed(which, 0), number);
            }
        }
    }

    private void notTold() {
        sentence("(As RV32I has them; what is not told is of no matter.)");
        for (int n = ADD; n <= PRINT; n++) {
            for (int k = toldBy(n); k < 3; k++) {
                LinkPress x = functions(1);
                int there = 0;
                for (int any : new int[] {LEAST, -2049, -1, 5, 24, 32, 40, 1048576, MOST}) {
                    due("put of " + n, putWith(x, n, k, any), there++);
                }
            }
        }
        // neither CLASSES, nor ROUTINES, nor words, nor runs look at it
        LinkPress x = program(
            f(i(LUI, 6, 1, 3), i(PRINT, 1, 2, 3), i(LUI, 7, 2, -1), i(PRINT, 9), i(RET, 5)),
            f(i(LUI, 6, 1, 4), i(PRINT, 4, 5, 6), i(LUI, 7, 2, LEAST), i(PRINT, 8), i(RET, 6)));
        due("about(1, 2)", x.about(1, 2), 0);
        due("press(false, true)", x.press(false, true), 9);
        due("routine(0, 1)", x.routine(0, 1), 2);
        due("word(5)", x.word(5), 0x73);
        due("press(false, false)", x.press(false, false), 10);
        for (int k = 0; k < 5; k++) {
            due("word(" + k + ")", x.word(k + 5), x.word(k));
        }
    }

    private void memory() {
        sentence("MEMORY: 64 words at 65536, 65540, ..; 0 at first.");
        LinkPress x = program(f(i(LUI, 3, 16), i(ADDI, 7, 0, 64), i(LW, 8, 3, 0), i(OR, 9, 9, 8), i(SW, 3, 3, 0),
            i(ADDI, 3, 3, 4), i(ADDI, 7, 7, -1), i(BNE, 7, 0, 2), i(RET)));
        for (int round = 0; round < 2; round++) {
            ends("through all of it", x, 9, 0);
            for (int k = 0; k < 64; k++) {
                due("memory(0, " + k + ")", x.memory(0, k), 65536 + 4 * k);
                due("memory(1, " + k + ")", x.memory(1, k), 65536 + 4 * k);
            }
        }
        // nor is anything left of the sort that a word was
        LinkPress z = program(f(i(LUI, 3, 16), i(LW, 8, 3, 0), i(LW, 9, 3, 252), i(ADD, 8, 8, 9), i(ADDR, 6, 0),
            i(SW, 6, 3, 0), i(SW, 1, 3, 252), i(RET)));
        for (int round = 0; round < 2; round++) {
            ends("round " + round, z, 8, 0);
        }
        LinkPress y = program(f(i(LUI, 3, 16), i(ADDI, 7, 0, 65), i(SW, 3, 3, 0), i(ADDI, 3, 3, 4),
            i(ADDI, 7, 7, -1), i(BNE, 7, 0, 2), i(RET)));
        told("a 65th word", y, 500, UNDEFINED, 2 + 4 * 64, 0, 2);
        ofImage("a 65th word", y, 500, BREAKS, 2 + 4 * 64, 4104);
    }
}
