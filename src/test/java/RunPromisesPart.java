/** Promises 11 to 15: runs of both sorts, and what is told of them. */
final class RunPromisesPart extends Part {
    RunPromisesPart(Checks checks) {
        super(checks);
    }

    void check() {
        fuel();
        asToldNow();
        howItEnds();
        nothingHappens();
        withoutAnything();
        jumpsToNothing();
        theLatestRun();
        ranRefusals();
        printed();
        printedOfTheLatest();
        registers();
        registersOfTheLatest();
        memory();
    }

    private void fuel() {
        sentence("`int run(int which, int fuel)`: A RUN of at most so many STEPS (1 to 20000), "
            + "which 0: of the FUNCTIONS as told now, 1: of the IMAGE:");
        LinkPress x = program(f(i(PRINT), i(JUMP, 0)));
        x.press(false, false);
        for (int which = 0; which <= 1; which++) {
            for (int fuel : new int[] {1, 2, 3, 19999, 20000}) {
                due("run(" + which + ", " + fuel + ")", x.run(which, fuel), FUEL);
                due("STEPS", x.ran(which, 1), fuel);
                due("PRINTED", x.ran(which, 2), (fuel + 1) / 2);
            }
        }
        // with the FUEL used up nothing more is begun, so it is not UNDEFINED yet
        LinkPress y = program(f(i(PRINT), i(JUMP, 2), i(RET)), f(i(LW, 6, 0, 0), i(RET)));
        told("to a place that there is", y, 2, FUEL, 2, 0, 2);
        LinkPress z = program(f(i(JUMP, 9)));
        told("FUEL used up ahead of no place", z, 1, FUEL, 1, 0, 9);
        told("one more", z, 2, UNDEFINED, 1, 0, 9);
        LinkPress w = program(f(i(PRINT), i(LW, 6, 0, 0), i(RET)));
        told("FUEL used up ahead of LW", w, 1, FUEL, 1, 0, 1);
        told("one more", w, 2, UNDEFINED, 1, 0, 1);
        ofImage("FUEL used up ahead of lw", w, 1, FUEL, 1, 4100);
        ofImage("one more", w, 2, BREAKS, 1, 4100);
    }

    private void asToldNow() {
        LinkPress x = program(f(i(ADDI, 10, 0, 1), i(RET)));
        x.press(true, true);
        due("clear()", x.clear(), 1);
        x.function();
        x.put(0, PRINT, 0, 0, 0);
        x.put(0, RET, 0, 0, 0);
        due("as told now", x.run(0, 9), ENDS);
        due("PRINTED", x.ran(0, 2), 1);
        due("no IMAGE", x.run(1, 9), NONE);
        LinkPress y = program(f(i(ADDI, 10, 0, 1), i(RET), i(PRINT), i(RET)));
        y.press(true, true);
        y.put(0, TAIL, 9, 0, 0);
        y.function();
        due("the IMAGE as it was pressed", y.run(1, 9), ENDS);
        due("STEPS", y.ran(1, 1), 2);
        due("register(1, 10)", y.register(1, 10), 1);
        LinkPress z = program(f(i(CALL, 1)), f(i(PRINT), i(RET)));
        told("before it is put", z, 9, UNDEFINED, 3, 0, 1);
        z.put(0, JUMP, 1, 0, 0);
        told("after it is put", z, 9, FUEL, 9, 0, 1);
    }

    private void howItEnds() {
        sentence("0 it ENDS, 1 out of FUEL, 2 UNDEFINED (it BREAKS).");
        LinkPress ends = program(f(i(PRINT), i(RET)));
        told("just enough", ends, 2, ENDS, 2, NONE, NONE);
        told("one too few", ends, 1, FUEL, 1, 0, 1);
        ofImage("just enough", ends, 2, ENDS, 2, 0);
        ofImage("one too few", ends, 1, FUEL, 1, 4100);
        told("most", ends, 20000, ENDS, 2, NONE, NONE);
        LinkPress breaks = program(f(i(PRINT), i(SW, 6, 0, 0), i(RET)));
        told("outside of MEMORY", breaks, 20000, UNDEFINED, 1, 0, 1);
        ofImage("outside of MEMORY", breaks, 20000, BREAKS, 1, 4100);
        // as told UNDEFINED, of the IMAGE it ENDS
        LinkPress both = program(f(i(ADDI, 1, 0, 0), i(RET)));
        told("RET of 0", both, 9, UNDEFINED, 1, 0, 1);
        ofImage("RET of 0", both, 9, ENDS, 2, 0);
    }

    private void nothingHappens() {
        sentence("NONE, and nothing happens, for others, without FUNCTION 0, or an IMAGE.");
        LinkPress x = program(f(i(LUI, 3, 16), i(ADDI, 10, 0, 7), i(SW, 10, 3, 0), i(PRINT), i(JUMP, 0)));
        x.press(false, false);
        for (int which = 0; which <= 1; which++) {
            due("run(" + which + ", 4)", x.run(which, 4), FUEL);
            for (int fuel : new int[] {0, -1, 20001, LEAST, MOST}) {
                due("run(" + which + ", " + fuel + ")", x.run(which, fuel), NONE);
                staysAsItWas(x, which);
            }
        }
        for (int which : new int[] {-1, 2, 3, LEAST, MOST}) {
            due("run(" + which + ", 10)", x.run(which, 10), NONE);
            staysAsItWas(x, 0);
            staysAsItWas(x, 1);
        }
        due("clear()", x.clear(), 1);
        for (int which = 0; which <= 1; which++) {
            due("run(" + which + ", 10)", x.run(which, 10), NONE);
            staysAsItWas(x, which);
        }
    }

    /** How, steps, prints, and what they left. */
    private void staysAsItWas(LinkPress x, int which) {
        due("ran(" + which + ", 0)", x.ran(which, 0), FUEL);
        due("ran(" + which + ", 1)", x.ran(which, 1), 4);
        due("ran(" + which + ", 2)", x.ran(which, 2), 1);
        due("ran(" + which + ", 3)", x.ran(which, 3), which == 0 ? 0 : 4112);
        due("printed(" + which + ", 0)", x.printed(which, 0), 7);
        due("register(" + which + ", 3)", x.register(which, 3), 65536);
        due("memory(" + which + ", 0)", x.memory(which, 0), 7);
    }

    private void withoutAnything() {
        LinkPress x = new LinkPress();
        for (int which = 0; which <= 1; which++) {
            for (int fuel : new int[] {1, 20000}) {
                due("run(" + which + ", " + fuel + ")", x.run(which, fuel), NONE);
                due("ran(" + which + ", 0)", x.ran(which, 0), NONE);
            }
        }
        x.function();
        due("FUNCTION 0 is there, though empty", x.run(0, 1), UNDEFINED);
        due("an IMAGE is not", x.run(1, 1), NONE);
        due("refused", x.press(true, true), -2);
        due("an IMAGE is not", x.run(1, 1), NONE);
        due("ran(1, 0)", x.ran(1, 0), NONE);
        x.put(0, RET, 0, 0, 0);
        x.press(true, true);
        due("an IMAGE is", x.run(1, 1), ENDS);
    }

    private void jumpsToNothing() {
        sentence("(As told: a place that there is not, of INSTRUCTIONS or FUNCTIONS, is UNDEFINED as it is come to: "
            + "the jump is done.)");
        for (int n = BEQ; n <= BGEU; n++) {
            boolean so = n == BEQ || n == BGE || n == BGEU;
            told(n + " to 39", program(f(i(n, 0, 0, 39))), 9, UNDEFINED, 1, 0, so ? 39 : 1);
        }
        told("JUMP behind the last", program(f(i(JUMP, 1))), 9, UNDEFINED, 1, 0, 1);
        told("JUMP to 39", program(f(i(JUMP, 39)), f(i(RET))), 9, UNDEFINED, 1, 0, 39);
        told("CALL of 1", program(f(i(CALL, 1), i(RET))), 9, UNDEFINED, 1, 1, 0);
        told("CALL of 23", program(f(i(CALL, 23), i(RET))), 9, UNDEFINED, 1, 23, 0);
        told("TAIL of 23", program(f(i(TAIL, 23))), 9, UNDEFINED, 1, 23, 0);
        told("CALL of an empty one", program(f(i(CALL, 1)), f()), 9, UNDEFINED, 1, 1, 0);
        told("ADDR of 23 alone is defined", program(f(i(ADDR, 6, 23), i(RET))), 9, ENDS, 2, NONE, NONE);
        told("ICALL of 23", program(f(i(ADDR, 6, 23), i(ICALL, 6))), 9, UNDEFINED, 2, 23, 0);
        told("RET to behind the last", program(f(i(CALL, 1)), f(i(RET))), 9, UNDEFINED, 2, 0, 1);
        // the jump is done: a CALL has written register 1
        LinkPress x = program(f(i(ADDI, 1, 0, 7), i(CALL, 9)));
        told("CALL of 9", x, 9, UNDEFINED, 2, 9, 0);
        due("register(0, 1)", x.register(0, 1), 0);
        LinkPress y = program(f(i(ADDI, 1, 0, 7), i(TAIL, 9)));
        told("TAIL of 9", y, 9, UNDEFINED, 2, 9, 0);
        due("register(0, 1)", y.register(0, 1), 7);
    }

    private void theLatestRun() {
        sentence("`int ran(int which, int what)`: Of the latest RUN of a sort (which as above), what 0: how it ended, "
            + "1: STEPS, 2: numbers PRINTED, 3: of the IMAGE the pc; as told the FUNCTION it was in, "
            + "4: as told the place in it (NONE of the IMAGE).");
        LinkPress x = program(f(i(PRINT), i(ADDR, 6, 1), i(TAIL, 1)), f(i(PRINT), i(JUMP, 1)));
        x.press(false, false);
        due("run(0, 5)", x.run(0, 5), FUEL);
        due("run(1, 2)", x.run(1, 2), FUEL);
        ranIs(x, 0, FUEL, 5, 2, 1, 1);
        ranIs(x, 1, FUEL, 2, 1, 4104, NONE);
        due("run(0, 1)", x.run(0, 1), FUEL);
        ranIs(x, 0, FUEL, 1, 1, 0, 1);
        ranIs(x, 1, FUEL, 2, 1, 4104, NONE);
        // more are PRINTED than are kept
        LinkPress y = program(f(i(PRINT), i(JUMP, 0)));
        y.press(false, false);
        for (int which = 0; which <= 1; which++) {
            due("run(" + which + ", 20000)", y.run(which, 20000), FUEL);
            due("ran(" + which + ", 2)", y.ran(which, 2), 10000);
        }
        // it stays, whatever becomes of the FUNCTIONS and of the IMAGE
        due("run(0, 19999)", y.run(0, 19999), FUEL);
        due("run(1, 19999)", y.run(1, 19999), FUEL);
        due("press", y.press(true, true), 2);
        due("put", y.put(0, RET, 0, 0, 0), 2);
        due("clear()", y.clear(), 1);
        ranIs(y, 0, FUEL, 19999, 10000, 0, 1);
        ranIs(y, 1, FUEL, 19999, 10000, 4100, NONE);
        LinkPress z = program(f(i(TAIL, 23)));
        due("run(0, 9)", z.run(0, 9), UNDEFINED);
        ranIs(z, 0, UNDEFINED, 1, 0, 23, 0);
        LinkPress w = program(f(i(ADDI, 6, 0, 2), i(ICALL, 6), i(RET)));
        w.press(true, true);
        due("run(1, 9)", w.run(1, 9), BREAKS);
        ranIs(w, 1, BREAKS, 2, 0, 2, NONE);
    }

    private void ranIs(LinkPress x, int which, int... want) {
        for (int what = 0; what < want.length; what++) {
            due("ran(" + which + ", " + what + ")", x.ran(which, what), want[what]);
        }
    }

    private void ranRefusals() {
        sentence("NONE ahead of any, or for another what; of 3 of one as told that ENDED, and 4, too.");
        LinkPress x = program(f(i(PRINT), i(RET)));
        x.press(true, true);
        for (int which = 0; which <= 1; which++) {
            ranIs(x, which, NONE, NONE, NONE, NONE, NONE);
            due("a RUN that is none", x.run(which, 0), NONE);
            ranIs(x, which, NONE, NONE, NONE, NONE, NONE);
        }
        due("run(0, 9)", x.run(0, 9), ENDS);
        ranIs(x, 0, ENDS, 2, 1, NONE, NONE);
        ranIs(x, 1, NONE, NONE, NONE, NONE, NONE);
        due("run(1, 9)", x.run(1, 9), ENDS);
        ranIs(x, 1, ENDS, 2, 1, 0, NONE);
        due("run(0, 1)", x.run(0, 1), FUEL);
        ranIs(x, 0, FUEL, 1, 1, 0, 1);
        for (int what : new int[] {-1, 5, 6, LEAST, MOST}) {
            due("ran(0, " + what + ")", x.ran(0, what), NONE);
            due("ran(1, " + what + ")", x.ran(1, what), NONE);
        }
        for (int which : new int[] {-1, 2, LEAST, MOST}) {
            ranIs(x, which, NONE, NONE, NONE, NONE, NONE);
        }
    }

    /** It prints 1, 2, 3 and so on. */
    private LinkPress counting() {
        LinkPress x = program(f(i(ADDI, 10, 10, 1), i(PRINT), i(JUMP, 0)));
        x.press(false, false);
        return x;
    }

    private void printed() {
        sentence("`int printed(int which, int i)`: The i-th number that it PRINTED (the first 200 are kept); 0.");
        for (int which = 0; which <= 1; which++) {
            LinkPress x = counting();
            due("printed ahead of any", x.printed(which, 0), 0);
            for (int n : new int[] {199, 200, 201, 256}) {
                x.run(which, 3 * n);
                due("ran(" + which + ", 2)", x.ran(which, 2), n);
                for (int k : new int[] {0, 1, 100, 198}) {
                    due("printed(" + which + ", " + k + ")", x.printed(which, k), k + 1);
                }
                due("printed(" + which + ", 199)", x.printed(which, 199), n >= 200 ? 200 : 0);
                for (int k : new int[] {-1, 200, 201, 255, 256, LEAST, MOST}) {
                    due("printed(" + which + ", " + k + ")", x.printed(which, k), 0);
                }
            }
        }
    }

    private void printedOfTheLatest() {
        LinkPress x = counting();
        x.run(0, 300);
        due("the other sort", x.printed(1, 0), 0);
        x.run(1, 30);
        x.run(0, 5);
        due("printed(0, 0)", x.printed(0, 0), 1);
        due("printed(0, 1)", x.printed(0, 1), 2);
        due("printed(0, 2), of an earlier RUN", x.printed(0, 2), 0);
        due("printed(1, 9)", x.printed(1, 9), 10);
        due("printed(1, 10)", x.printed(1, 10), 0);
        x.run(0, 1);
        due("printed(0, 0), when nothing is", x.printed(0, 0), 0);
        x.clear();
        due("printed(1, 9), when it is cleared", x.printed(1, 9), 10);
        for (int which : new int[] {-1, 2, LEAST, MOST}) {
            due("printed(" + which + ", 0)", x.printed(which, 0), 0);
        }
    }

    /** Numbers, ADDRESSES and RETURNS in registers and in MEMORY; then it goes round. */
    private LinkPress allSorts() {
        LinkPress x = program(f(i(LUI, 3, 16), i(ADDI, 31, 0, -7), i(ADDR, 6, 1), i(SW, 31, 3, 252), i(SW, 6, 3, 4),
            i(SW, 1, 3, 8), i(ADDI, 0, 31, 0), i(CALL, 1), i(RET)), f(i(SW, 1, 3, 12), i(JUMP, 1)));
        due("press", x.press(false, false), 12);
        return x;
    }

    private void registers() {
        sentence("`int register(int which, int k)`: Of that RUN, register k: as told its number "
            + "(0 of an ADDRESS or RETURN), of the IMAGE what it has; 0 without.");
        LinkPress x = allSorts();
        for (int which = 0; which <= 1; which++) {
            for (int k : new int[] {0, 1, 3, 31}) {
                due("register(" + which + ", " + k + ") ahead of any", x.register(which, k), 0);
            }
            due("run", x.run(which, 50), FUEL);
            due("register(" + which + ", 0)", x.register(which, 0), 0);
            due("register(" + which + ", 3)", x.register(which, 3), 65536);
            due("register(" + which + ", 31)", x.register(which, 31), -7);
            due("register(" + which + ", 6), an ADDRESS", x.register(which, 6), which * 4136);
            due("register(" + which + ", 1), a RETURN", x.register(which, 1), which * 4132);
            due("register(" + which + ", 5)", x.register(which, 5), 0);
            for (int k : new int[] {-1, 32, 33, 64, LEAST, MOST}) {
                due("register(" + which + ", " + k + ")", x.register(which, k), 0);
            }
        }
        for (int which : new int[] {-1, 2, LEAST, MOST}) {
            due("register(" + which + ", 3)", x.register(which, 3), 0);
        }
        LinkPress all = program(join(load(2, MOST), load(30, LEAST), f(i(ADDI, 4, 2, 0), i(RET))));
        all.press(true, true);
        for (int which = 0; which <= 1; which++) {
            due("run", all.run(which, 9), ENDS);
            due("register(" + which + ", 2)", all.register(which, 2), MOST);
            due("register(" + which + ", 4)", all.register(which, 4), MOST);
            due("register(" + which + ", 30)", all.register(which, 30), LEAST);
        }
    }

    private void registersOfTheLatest() {
        LinkPress x = allSorts();
        x.run(0, 50);
        due("the other sort", x.register(1, 31), 0);
        x.run(0, 1);
        due("register(0, 3), of the latest", x.register(0, 3), 65536);
        due("register(0, 31), of the latest", x.register(0, 31), 0);
        x.run(1, 2);
        due("press", x.press(true, true), 12);
        x.put(0, RET, 0, 0, 0);
        x.function();
        due("register(1, 31), when it is pressed", x.register(1, 31), -7);
        due("register(0, 3), when more is put", x.register(0, 3), 65536);
        x.clear();
        due("register(1, 31), when it is cleared", x.register(1, 31), -7);
        due("register(0, 3), when it is cleared", x.register(0, 3), 65536);
    }

    private void memory() {
        sentence("`int memory(int which, int k)`: The word of MEMORY likewise, 0 to 63.");
        LinkPress x = allSorts();
        for (int which = 0; which <= 1; which++) {
            due("memory(" + which + ", 63) ahead of any", x.memory(which, 63), 0);
            due("run", x.run(which, 50), FUEL);
            due("memory(" + which + ", 63)", x.memory(which, 63), -7);
            due("memory(" + which + ", 1), an ADDRESS", x.memory(which, 1), which * 4136);
            due("memory(" + which + ", 2), the RETURN to the END", x.memory(which, 2), 0);
            due("memory(" + which + ", 3), a RETURN", x.memory(which, 3), which * 4132);
            due("memory(" + which + ", 0)", x.memory(which, 0), 0);
            for (int k : new int[] {-1, 64, 65, 252, 65536, LEAST, MOST}) {
                due("memory(" + which + ", " + k + ")", x.memory(which, k), 0);
            }
        }
        for (int which : new int[] {-1, 2, LEAST, MOST}) {
            due("memory(" + which + ", 63)", x.memory(which, 63), 0);
        }
        due("run", x.run(0, 3), FUEL);
        due("memory(0, 63), of the latest", x.memory(0, 63), 0);
        due("memory(1, 63), of the other sort", x.memory(1, 63), -7);
        due("press", x.press(true, true), 12);
        due("memory(1, 63), when it is pressed", x.memory(1, 63), -7);
        x.clear();
        due("memory(1, 63), when it is cleared", x.memory(1, 63), -7);
    }
}
