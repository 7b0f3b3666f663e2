/** II. AS TOLD: the sorts of values, where a run is UNDEFINED, and what it leaves then. */
final class ToldPart extends Part {
    private static final int ADDRESS = 6;
    private static final int RETURN = 1;

    ToldPart(Checks checks) {
        super(checks);
    }

    void check() {
        sortsOfValues();
        atFirst();
        registerZero();
        calls();
        returns();
        valuesOfAnySort();
        steps();
        notDone();
        noNumber();
        branchesOfNoNumber();
        addressesThatMayBe();
        callsAndReturnsOfOthers();
        outsideOfMemory();
        behindTheLast();
        notWritten();
    }

    /** Register 6 is the ADDRESS of FUNCTION 1, 1 the RETURN to the END, 3 points to MEMORY; then it. */
    private void afterValues(int[] sign, boolean goesOn) {
        LinkPress x = program(
            f(i(ADDR, ADDRESS, 1), i(LUI, 3, 16), sign, i(PRINT), i(PRINT)), f(i(PRINT)));
        String name = sign[0] + ", " + sign[1] + ", " + sign[2] + ", " + sign[3];
        due(name + ": run(0, 3)", x.run(0, 3), goesOn ? FUEL : UNDEFINED);
        due(name + ": STEPS", x.ran(0, 1), goesOn ? 3 : 2);
        if (!goesOn) {
            due(name + ": FUNCTION", x.ran(0, 3), 0);
            due(name + ": place", x.ran(0, 4), 2);
        }
    }

    private void sortsOfValues() {
        sentence("A value is a number (32 bits), the ADDRESS of a FUNCTION, or a RETURN.");
        told("a number beyond 32 bits begins anew", program(join(load(6, MOST), load(7, LEAST),
            f(i(ADDI, 6, 6, 1), i(BEQ, 6, 7, 7), i(JUMP, 9), i(RET)))), 9, ENDS, 7, NONE, NONE);
        // 0 is not the ADDRESS of FUNCTION 0, and no number is the RETURN to the END
        afterValues(i(ICALL, 2), false);
        afterValues(i(BEQ, ADDRESS, 3, 3), false);
        afterValues(i(BEQ, ADDRESS, RETURN, 3), false);
        told("0 is not the ADDRESS of FUNCTION 0", program(f(i(ADDR, 6, 0), i(BEQ, 6, 0, 0))), 9,
            UNDEFINED, 1, 0, 1);
        told("the number that an ADDRESS has in the IMAGE", program(f(i(LUI, 6, 1), i(ICALL, 6))), 9,
            UNDEFINED, 1, 0, 1);
        told("0 is not the END", program(f(i(ADDI, 1, 0, 0), i(RET))), 9, UNDEFINED, 1, 0, 1);
    }

    private void atFirst() {
        sentence("At first all registers are 0, but 1, which is the RETURN to the END; FUNCTION 0 begins.");
        for (int k = 0; k < 32; k++) {
            if (k != 5 && k != 1) {
                told("register " + k, program(f(i(BEQ, k, 0, 2), i(JUMP, 9), i(RET))), 9, ENDS, 2, NONE, NONE);
            }
        }
        told("register 1 is no number", program(f(i(BEQ, 1, 0, 0))), 9, UNDEFINED, 0, 0, 0);
        // register 5 is 0 too, and stays so; nothing is left of an earlier run
        LinkPress x = program(f(i(BNE, 6, 0, 4), i(ADDI, 6, 0, 7), i(CALL, 1), i(PRINT), i(JUMP, 9)),
            f(i(ADDI, 10, 10, 1), i(RET)));
        for (int round = 0; round < 2; round++) {
            told("round " + round, x, 6, FUEL, 6, 0, 4);
            due("printed(0, 0)", x.printed(0, 0), 1);
            due("register(0, 5)", x.register(0, 5), 0);
        }
        // nor of the sort that a register was, which is 0 to look at
        LinkPress z = program(f(i(ADD, 7, 6, 9), i(ADDR, 6, 0), i(ADDI, 9, 1, 0), i(ADDI, 1, 0, 0), i(JUMP, 4)));
        for (int round = 0; round < 2; round++) {
            told("round " + round, z, 6, FUEL, 6, 0, 4);
        }
        LinkPress y = functions(2);
        y.put(1, PRINT, 0, 0, 0);
        y.put(0, RET, 0, 0, 0);
        told("FUNCTION 0, though 1 was put first", y, 9, ENDS, 1, NONE, NONE);
    }

    private void registerZero() {
        sentence("Register 0 is 0 always.");
        int[][] writes = {i(ADD, 0, 7, 7), i(SLTIU, 0, 7, -1), i(ADDI, 0, 7, 0), i(ADDI, 0, 7, 1), i(LUI, 0, 9),
            i(LW, 0, 3, 0), i(ADDR, 0, 1), i(ADDI, 0, 1, 0), i(SLLI, 0, 7, 1)};
        for (int[] write : writes) {
            LinkPress x = program(f(i(LUI, 3, 16), i(ADDI, 7, 0, 9), i(SW, 7, 3, 0), write, i(ADDI, 10, 0, 0),
                i(PRINT), i(BNE, 0, 10, 9), i(SW, 0, 3, 0), i(RET)));
            told("written by " + write[0], x, 9, ENDS, 9, NONE, NONE);
            due("printed(0, 0)", x.printed(0, 0), 0);
            due("register(0, 0)", x.register(0, 0), 0);
            due("register(0, 10)", x.register(0, 10), 0);
            due("memory(0, 0)", x.memory(0, 0), 0);
        }
        told("it is no ADDRESS", program(f(i(ADDR, 0, 0), i(ICALL, 0))), 9, UNDEFINED, 1, 0, 1);
    }

    private void calls() {
        sentence("CALL, ICALL: register 1 is the RETURN to behind it; TAIL goes there without.");
        told("CALL", program(f(i(CALL, 1), i(JUMP, 2)), f(i(RET))), 9, UNDEFINED, 3, 0, 2);
        told("CALL at the last place", program(f(i(CALL, 1)), f(i(RET))), 9, UNDEFINED, 2, 0, 1);
        told("CALL loses the END", program(f(i(CALL, 1), i(RET)), f(i(RET))), 9, FUEL, 9, 0, 1);
        told("ICALL", program(f(i(ADDR, 6, 1), i(ICALL, 6)), f(i(RET))), 9, UNDEFINED, 3, 0, 2);
        told("ICALL by register 1", program(f(i(ADDR, 1, 1), i(ICALL, 1)), f(i(RET))), 9, UNDEFINED, 3, 0, 2);
        told("TAIL keeps the END", program(f(i(TAIL, 1), i(PRINT)), f(i(RET))), 9, ENDS, 2, NONE, NONE);
        told("TAIL in what was called", program(f(i(CALL, 1)), f(i(TAIL, 2), i(PRINT)), f(i(RET))), 9,
            UNDEFINED, 3, 0, 1);
        told("TAIL needs nothing of register 1", program(f(i(ADDI, 1, 0, 7), i(TAIL, 1)), f(i(RET))), 9,
            UNDEFINED, 2, 1, 0);
        callsFromFarPlaces();
    }

    /** The places to come back to: behind the 16th, 32nd and 40th of the first and of the last ones. */
    private void callsFromFarPlaces() {
        for (int f : new int[] {2, 3, 22, 23}) {
            for (int place : new int[] {15, 31, 38, 39}) {
                LinkPress x = functions(24);
                put(x, 0, i(TAIL, f));
                put(x, 1, i(RET));
                for (int k = 0; k < place; k++) {
                    put(x, f, i(PRINT));
                }
                put(x, f, i(CALL, 1));
                told("behind place " + place + " of FUNCTION " + f, x, 99, UNDEFINED, place + 3, f, place + 1);
            }
        }
        told("behind the 40th of FUNCTION 0", program(join(times(39, i(PRINT)), f(i(CALL, 1))), f(i(RET))), 99,
            UNDEFINED, 41, 0, 40);
    }

    private void returns() {
        sentence("RET goes to what RETURN register 1 is (the END: it ENDS).");
        told("the END at once", program(f(i(RET))), 1, ENDS, 1, NONE, NONE);
        told("the END in another FUNCTION", program(f(i(ADDI, 6, 1, 0), i(CALL, 1), i(JUMP, 9)),
            f(i(ADDI, 1, 6, 0), i(RET))), 9, ENDS, 4, NONE, NONE);
        told("the END out of MEMORY", program(
            f(i(LUI, 3, 16), i(SW, 1, 3, 252), i(CALL, 1), i(LW, 1, 3, 252), i(RET)), f(i(RET))), 9,
            ENDS, 6, NONE, NONE);
        told("twice to the same place", program(f(i(CALL, 1), i(ADDI, 7, 7, 1), i(BNE, 7, 8, 4), i(JUMP, 9),
            i(ADDI, 8, 0, 2), i(RET)), f(i(RET))), 20, UNDEFINED, 9, 0, 9);
        told("an outer one first", program(f(i(CALL, 1), i(JUMP, 7)), f(i(ADDI, 9, 1, 0), i(CALL, 2)),
            f(i(ADDI, 1, 9, 0), i(RET))), 9, UNDEFINED, 6, 0, 7);
    }

    private void valuesOfAnySort() {
        sentence("ADDI with c 0, LW, SW take values of any sort.");
        int[][] copies = {i(ADDI, 8, 7, 0)};
        int[][] throughMemory = f(i(SW, 7, 3, 4), i(LW, 8, 3, 4));
        for (int[][] way : new int[][][] {copies, throughMemory}) {
            told("an ADDRESS", program(join(f(i(LUI, 3, 16), i(ADDR, 7, 1)), way, f(i(ICALL, 8))),
                f(i(JUMP, 3))), 9, UNDEFINED, way.length + 4, 1, 3);
            told("a RETURN", program(join(f(i(LUI, 3, 16), i(ADDI, 7, 1, 0), i(ADDI, 1, 0, 0)), way,
                f(i(ADDI, 1, 8, 0), i(RET)))), 9, ENDS, way.length + 5, NONE, NONE);
            LinkPress x = program(join(f(i(LUI, 3, 16), i(ADDI, 7, 0, -9)), way, f(i(RET))));
            told("a number", x, 9, ENDS, way.length + 3, NONE, NONE);
            due("register(0, 8)", x.register(0, 8), -9);
        }
        for (int v : new int[] {ADDRESS, RETURN}) {
            afterValues(i(ADDI, 7, v, 0), true);
            afterValues(i(ADDI, 0, v, 0), true);
            afterValues(i(ADDI, 7, v, 1), false);
            afterValues(i(ADDI, 7, v, -1), false);
            afterValues(i(SW, v, 3, 0), true);
            // where LW and SW look is a number
            afterValues(i(SW, 7, v, 0), false);
            afterValues(i(LW, 7, v, 0), false);
        }
        // a number takes the place of another sort, in a register and in MEMORY
        LinkPress y = program(f(i(LUI, 3, 16), i(ADDR, 6, 0), i(SW, 6, 3, 0), i(SW, 3, 3, 0), i(ADDI, 6, 0, 4),
            i(LW, 7, 3, 0), i(ADD, 8, 6, 7), i(RET)));
        told("a number again", y, 9, ENDS, 8, NONE, NONE);
        due("register(0, 8)", y.register(0, 8), 65540);
        due("memory(0, 0)", y.memory(0, 0), 65536);
    }

    private void steps() {
        sentence("Each INSTRUCTION begun is a STEP.");
        LinkPress x = program(f(i(ADDI, 0, 0, 0), i(BNE, 0, 0, 9), i(BEQ, 0, 0, 4), i(PRINT), i(JUMP, 5), i(PRINT),
            i(ADDR, 6, 1), i(TAIL, 1)), f(i(RET)));
        told("eight of nine", x, 99, ENDS, 8, NONE, NONE);
        for (int fuel = 1; fuel <= 7; fuel++) {
            due("run(0, " + fuel + ")", x.run(0, fuel), FUEL);
            due("ran(0, 1)", x.ran(0, 1), fuel);
        }
        due("run(0, 8)", x.run(0, 8), ENDS);
    }

    private void notDone() {
        sentence("The run is UNDEFINED at one (not done, no STEP):");
        LinkPress x = program(f(i(ADDR, 10, 0), i(PRINT), i(RET)));
        told("PRINT", x, 9, UNDEFINED, 1, 0, 1);
        due("nothing is printed", x.ran(0, 2), 0);
        LinkPress y = program(f(i(LUI, 3, 16), i(ADDI, 7, 0, 9), i(LW, 7, 3, 256)));
        told("LW", y, 9, UNDEFINED, 2, 0, 2);
        due("register(0, 7)", y.register(0, 7), 9);
        LinkPress z = program(f(i(ADDI, 7, 0, 9), i(ADD, 7, 7, 1)));
        told("ADD", z, 9, UNDEFINED, 1, 0, 1);
        due("register(0, 7)", z.register(0, 7), 9);
        LinkPress w = program(f(i(ADDI, 1, 0, 9), i(ICALL, 2)));
        told("ICALL", w, 9, UNDEFINED, 1, 0, 1);
        due("register(0, 1)", w.register(0, 1), 9);
        LinkPress v = program(join(load(3, 65538), f(i(SW, 3, 3, 0))));
        told("SW", v, 9, UNDEFINED, 2, 0, 2);
        due("memory(0, 0)", v.memory(0, 0), 0);
    }

    private void noNumber() {
        sentence("anything else with a value that is no number,");
        for (int v : new int[] {ADDRESS, RETURN}) {
            for (int n = ADD; n <= SLTU; n++) {
                afterValues(i(n, 7, v, 0), false);
                afterValues(i(n, 7, 0, v), false);
                afterValues(i(n, 0, v, v), false);
                afterValues(i(n, v, 0, 0), true);
            }
            for (int n = ADDI; n <= SRAI; n++) {
                afterValues(i(n, 7, v, 1), false);
                afterValues(i(n, 0, v, 1), false);
                afterValues(i(n, v, 0, 1), true);
                afterValues(i(n, 7, v, 0), n == ADDI);
            }
            afterValues(i(LUI, v, 1), true);
            afterValues(i(LW, v, 3, 0), true);
            afterValues(i(ADDR, v, 1), true);
        }
        told("PRINT of an ADDRESS", program(f(i(ADDR, 10, 0), i(PRINT))), 9, UNDEFINED, 1, 0, 1);
        told("PRINT of a RETURN", program(f(i(ADDI, 10, 1, 0), i(PRINT))), 9, UNDEFINED, 1, 0, 1);
    }

    private void branchesOfNoNumber() {
        for (int n = BEQ; n <= BGEU; n++) {
            for (int v : new int[] {ADDRESS, RETURN}) {
                afterValues(i(n, v, 0, 3), false);
                afterValues(i(n, 0, v, 3), false);
            }
            afterValues(i(n, RETURN, ADDRESS, 3), false);
            afterValues(i(n, ADDRESS, RETURN, 3), false);
            afterValues(i(n, RETURN, RETURN, 3), false);
        }
    }

    private void addressesThatMayBe() {
        sentence("but ICALL of an ADDRESS, and BEQ, BNE of two ADDRESSES (the same FUNCTION or not);");
        afterValues(i(ICALL, ADDRESS), true);
        for (int n = BEQ; n <= BGEU; n++) {
            afterValues(i(n, ADDRESS, ADDRESS, 3), n <= BNE);
        }
        // the same and another FUNCTION; 1 and 2 are alike, 22 and 23 are not there
        int[][] pairs = {{1, 1}, {1, 2}, {2, 1}, {0, 0}, {0, 1}, {23, 23}, {22, 23}};
        for (int[] pair : pairs) {
            boolean same = pair[0] == pair[1];
            for (int n : new int[] {BEQ, BNE}) {
                LinkPress x = program(f(i(ADDR, 6, pair[0]), i(ADDR, 7, pair[1]), i(n, 6, 7, 4), i(JUMP, 5),
                    i(RET), i(RET), i(RET)), f(i(RET)), f(i(RET)));
                told(n + " of " + pair[0] + " and " + pair[1], x, 4, same == (n == BEQ) ? ENDS : FUEL, 4,
                    same == (n == BEQ) ? NONE : 0, same == (n == BEQ) ? NONE : 5);
            }
        }
    }

    private void callsAndReturnsOfOthers() {
        sentence("ICALL, RET of anything else;");
        for (int r : new int[] {0, 3, 31, RETURN}) {
            afterValues(i(ICALL, r), false);
        }
        told("RET of a number", program(f(i(ADDI, 1, 0, 1), i(RET))), 9, UNDEFINED, 1, 0, 1);
        told("RET of an ADDRESS", program(f(i(ADDR, 1, 0), i(RET))), 9, UNDEFINED, 1, 0, 1);
        told("RET of what LW has at first", program(f(i(LUI, 3, 16), i(LW, 1, 3, 0), i(RET))), 9,
            UNDEFINED, 2, 0, 2);
    }

    private void outsideOfMemory() {
        sentence("LW, SW at no multiple of 4, or outside of MEMORY;");
        for (int n : new int[] {LW, SW}) {
            for (int low : new int[] {0, 4, 248, 252}) {
                afterValues(i(n, 0, 3, low), true);
                afterValues(i(n, 7, 3, low), true);
            }
            for (int low : new int[] {-2048, -4, -3, -2, -1, 1, 2, 3, 250, 253, 254, 255, 256, 260, 2047}) {
                afterValues(i(n, 0, 3, low), false);
                afterValues(i(n, 7, 3, low), false);
            }
            int[] far = {0, -4, LEAST, MOST - 3, LEAST + 65536, 65536 + 0x40000000, 65536 - 0x40000000, -65536};
            for (int at : far) {
                told(n + " at " + at, program(join(load(7, at), f(i(n, 8, 7, 0)))), 9, UNDEFINED, 2, 0, 2);
            }
            // the sum of b and c begins anew beyond 32 bits
            told(n + " beyond MOST", program(join(load(7, MOST), f(i(n, 8, 7, 1)))), 9, UNDEFINED, 2, 0, 2);
            told(n + " below 0", program(f(i(n, 8, 0, -4))), 9, UNDEFINED, 0, 0, 0);
        }
    }

    private void behindTheLast() {
        sentence("behind the last INSTRUCTION of a FUNCTION.");
        told("an empty one", program(f(), f(i(RET))), 9, UNDEFINED, 0, 0, 0);
        told("behind one", program(f(i(PRINT)), f(i(RET))), 9, UNDEFINED, 1, 0, 1);
        told("behind 40", program(times(40, i(PRINT)), f(i(RET))), 99, UNDEFINED, 40, 0, 40);
        told("behind a branch", program(f(i(BNE, 0, 0, 0)), f(i(RET))), 9, UNDEFINED, 1, 0, 1);
        told("in another", program(f(i(CALL, 1), i(RET)), f(i(PRINT))), 9, UNDEFINED, 2, 1, 1);
        told("an empty other", program(f(i(CALL, 1), i(RET)), f()), 9, UNDEFINED, 1, 1, 0);
    }

    private void notWritten() {
        sentence("(Register 0 as a is not written.)");
        for (int n = ADD; n <= LW; n++) {
            // -5 and 3 in 7 and 9, so that none of them makes a 0
            int b = n == SLTU || n == SLTIU ? 9 : n == LW ? 3 : 7;
            int c = n == SLTU ? 7 : n == LW ? 0 : 9;
            LinkPress x = program(f(i(LUI, 3, 16), i(ADDI, 7, 0, -5), i(ADDI, 9, 0, 3), i(SW, 3, 3, 0),
                i(n, 0, b, c), i(ADD, 8, 0, 0), i(RET)));
            ends("a 0 of " + n, x, 8, 0);
            due("register(0, 0)", x.register(0, 0), 0);
            due("register(1, 0)", x.register(1, 0), 0);
        }
        LinkPress y = program(f(i(ADDR, 0, 1), i(ADD, 8, 0, 0), i(RET)), f(i(RET)));
        ends("a 0 of ADDR", y, 8, 0);
        // of SW and the branches a is read
        LinkPress z = program(f(i(LUI, 3, 16), i(SW, 3, 3, 0), i(SW, 0, 3, 0), i(LW, 8, 3, 0), i(BEQ, 0, 8, 6),
            i(ADDI, 8, 0, 1), i(RET)));
        ends("a 0 of SW and BEQ", z, 8, 0);
    }
}
