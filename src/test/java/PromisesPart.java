/** Promises 1 to 10 and 16: programs, the press, and what is told of the IMAGE. */
final class PromisesPart extends Part {
    private static final int[] WRONG = {-1, LEAST, MOST};

    PromisesPart(Checks checks) {
        super(checks);
    }

    void check() {
        manyCalls();
        promise1();
        promise2();
        promise3();
        promise3Refusals();
        promise4();
        promise4Anew();
        promise5();
        promise5Refusals();
        promise6();
        promise6Refusals();
        promise7();
        promise7Refusals();
        promise8();
        promise8Refusals();
        promise9();
        promise9Refusals();
        promise10();
        promise16();
        promise16Refusals();
    }

    private void manyCalls() {
        sentence("An object is used for at most 512 calls after it has been made; what later calls answer is free.");
        LinkPress x = new LinkPress();
        for (int round = 0; round < 102; round++) {
            due("function()", x.function(), 0);
            due("put", x.put(0, RET, 0, 0, 0), 0);
            due("press", x.press(true, true), 1);
            due("run", x.run(round & 1, 20000), ENDS);
            due("clear()", x.clear(), 1);
        }
        due("function(), the 511th call", x.function(), 0);
        due("about(0, 0), the 512th call", x.about(0, 0), 0);
        // 39 calls make it, 468 press and ask
        LinkPress y = program(join(row("abcdefgh."), row("abcdefgh.")), row("abcdefgh."), row("abcdefgh."));
        for (int round = 0; round < 156; round++) {
            due("press", y.press(round % 2 == 0, true), round % 2 == 0 ? 6 + 9 : 8 + 9);
            due("routine(0, 1)", y.routine(0, 1), round % 2 == 0 ? 3 : 4);
            due("count(2)", y.count(2), 2);
        }
    }

    private void promise1() {
        sentence("`LinkPress()`: No FUNCTIONS.");
        LinkPress x = new LinkPress();
        for (int what = 0; what <= 6; what++) {
            due("count(" + what + ")", x.count(what), 0);
        }
        due("about(0, 0)", x.about(0, 0), NONE);
        due("put", x.put(0, RET, 0, 0, 0), NONE);
        due("body(0, 0)", x.body(0, 0), NONE);
        due("body(0, 1)", x.body(0, 1), NONE);
        due("routine(0, 0)", x.routine(0, 0), NONE);
        due("occurrence(0, 0, 0)", x.occurrence(0, 0, 0), NONE);
        due("word(0)", x.word(0), 0);
        due("press", x.press(false, false), -1);
        due("clear()", x.clear(), 0);
        for (int which = 0; which <= 1; which++) {
            due("run(" + which + ", 10)", x.run(which, 10), NONE);
            due("printed(" + which + ", 0)", x.printed(which, 0), 0);
            due("register(" + which + ", 1)", x.register(which, 1), 0);
            due("memory(" + which + ", 0)", x.memory(which, 0), 0);
            for (int what = 0; what <= 4; what++) {
                due("ran(" + which + ", " + what + ")", x.ran(which, what), NONE);
            }
        }
        // what one object has is no other's
        program(f(i(RET))).press(true, true);
        due("count(0)", x.count(0), 0);
        due("count(0) of another new one", new LinkPress().count(0), 0);
    }

    private void promise2() {
        sentence("`int function()`: A FUNCTION more: its number; NONE if there are 24.");
        LinkPress x = new LinkPress();
        for (int round = 0; round < 2; round++) {
            for (int f = 0; f < 24; f++) {
                due("function()", x.function(), f);
                due("about(" + f + ", 0)", x.about(f, 0), 0);
                due("count(0)", x.count(0), f + 1);
            }
            due("a 25th", x.function(), NONE);
            due("a 25th again", x.function(), NONE);
            due("count(0)", x.count(0), 24);
            due("about(24, 0)", x.about(24, 0), NONE);
            due("clear()", x.clear(), 24);
        }
        due("function()", x.function(), 0);
        for (int k = 0; k < 40; k++) {
            x.put(0, PRINT, 0, 0, 0);
        }
        due("function() behind a full one", x.function(), 1);
    }

    private void promise3() {
        sentence("`int put(int function, int number, int a, int b, int c)`: An INSTRUCTION more at a FUNCTION's end: "
            + "its place.");
        LinkPress x = functions(3);
        int[][] puts = {{1, 0}, {0, 0}, {1, 1}, {2, 0}, {0, 1}, {0, 2}, {1, 2}, {2, 1}};
        for (int[] put : puts) {
            due("put at FUNCTION " + put[0], x.put(put[0], put[1] == 0 ? ADDI : RET, 6, 0, 10 + put[0]), put[1]);
            due("about(" + put[0] + ", 0)", x.about(put[0], 0), put[1] + 1);
        }
        due("count(1)", x.count(1), puts.length);
        due("press", x.press(false, false), puts.length);
        int[] firsts = {0, 3, 6};
        for (int f = 0; f < 3; f++) {
            due("the first of FUNCTION " + f, x.word(firsts[f]), 10 + f << 20 | 6 << 7 | 0x13);
            due("the next of FUNCTION " + f, x.word(firsts[f] + 1), 0x8067);
        }
    }

    private void promise3Refusals() {
        sentence("NONE, and none comes: no such FUNCTION, number, register, a, b, c as I tells, or it has 40, "
            + "or there are 300.");
        LinkPress x = functions(2);
        x.put(0, RET, 0, 0, 0);
        int[][] refused = {{2, RET, 0, 0, 0}, {-1, RET, 0, 0, 0}, {23, RET, 0, 0, 0}, {24, RET, 0, 0, 0},
            {LEAST, RET, 0, 0, 0}, {MOST, RET, 0, 0, 0}, {0, -1, 0, 0, 0}, {0, 35, 0, 0, 0}, {0, LEAST, 0, 0, 0},
            {0, MOST, 0, 0, 0}, {0, ADD, 32, 0, 0}, {0, ADD, 0, 5, 0}, {0, ADD, 0, 0, -1}, {0, ADDI, 0, 0, 2048},
            {0, SLLI, 0, 0, 32}, {0, LUI, 0, -1, 0}, {0, LW, 0, 0, -2049}, {0, SW, 5, 0, 0}, {0, BEQ, 0, 0, 40},
            {0, BGEU, 0, 5, 0}, {0, JUMP, 40, 0, 0}, {0, CALL, 24, 0, 0}, {0, TAIL, -1, 0, 0}, {0, ADDR, 5, 0, 0},
            {0, ADDR, 0, 24, 0}, {0, ICALL, 32, 0, 0}};
        for (int[] put : refused) {
            due("put " + put[1] + " at FUNCTION " + put[0], x.put(put[0], put[1], put[2], put[3], put[4]), NONE);
            due("count(1)", x.count(1), 1);
        }
        due("about(0, 0)", x.about(0, 0), 1);
        due("about(1, 0)", x.about(1, 0), 0);
        due("run(0, 9)", x.run(0, 9), ENDS);
        // it has 40
        LinkPress y = program(times(40, i(RET)), f());
        due("a 41st", y.put(0, RET, 0, 0, 0), NONE);
        due("about(0, 0)", y.about(0, 0), 40);
        due("about(1, 0)", y.about(1, 0), 0);
        // there are 300
        int[][][] rows = new int[9][][];
        for (int f = 0; f < 9; f++) {
            rows[f] = times(f < 7 ? 40 : 10, i(RET));
        }
        LinkPress z = program(rows);
        for (int f : new int[] {0, 7, 8}) {
            due("a 301st at FUNCTION " + f, z.put(f, RET, 0, 0, 0), NONE);
        }
        due("count(1)", z.count(1), 300);
        due("about(8, 0)", z.about(8, 0), 10);
        due("press", z.press(false, true), 300);
    }

    private void promise4() {
        sentence("`int clear()`: No FUNCTIONS, no IMAGE: how many there were.");
        LinkPress x = program(row("abcdabcd."), f(i(RET)), f(i(ADDR, 6, 1), i(RET)));
        due("press", x.press(false, true), 3 + 1 + 3 + 5);
        due("run(0, 99)", x.run(0, 99), ENDS);
        due("run(1, 1)", x.run(1, 1), FUEL);
        due("clear()", x.clear(), 3);
        due("clear() again", x.clear(), 0);
        for (int what = 0; what <= 6; what++) {
            due("count(" + what + ")", x.count(what), 0);
        }
        due("about(0, 0)", x.about(0, 0), NONE);
        due("word(0)", x.word(0), 0);
        due("body(0, 0)", x.body(0, 0), NONE);
        due("body(0, 1)", x.body(0, 1), NONE);
        due("routine(0, 0)", x.routine(0, 0), NONE);
        due("occurrence(0, 0, 0)", x.occurrence(0, 0, 0), NONE);
        due("put", x.put(0, RET, 0, 0, 0), NONE);
        due("press", x.press(true, true), -1);
        due("run(0, 9)", x.run(0, 9), NONE);
        due("run(1, 9)", x.run(1, 9), NONE);
        // the latest RUN is no part of them
        due("ran(0, 1)", x.ran(0, 1), 9);
        due("ran(1, 3)", x.ran(1, 3), 4096 + 28);
        due("register(1, 5)", x.register(1, 5), 4100);
        LinkPress y = functions(24);
        due("clear() of 24", y.clear(), 24);
    }

    /** Nothing of what was there comes back with what is made anew. */
    private void promise4Anew() {
        LinkPress x = program(times(40, i(PRINT)), f(i(PRINT), i(ADDR, 6, 0)), f(i(RET)));
        due("clear()", x.clear(), 3);
        due("function()", x.function(), 0);
        due("about(0, 0)", x.about(0, 0), 0);
        due("about(0, 1)", x.about(0, 1), 0);
        due("run(0, 9)", x.run(0, 9), UNDEFINED);
        due("ran(0, 1)", x.ran(0, 1), 0);
        due("body(0, 0)", x.body(0, 0), NONE);
        due("put", x.put(0, TAIL, 1, 0, 0), 0);
        told("TAIL of one that was cleared", x, 9, UNDEFINED, 1, 1, 0);
        due("press", x.press(true, true), -4);
        due("function()", x.function(), 1);
        told("TAIL of one that is empty now", x, 9, UNDEFINED, 1, 1, 0);
        due("count(2)", x.count(2), 2);
    }

    private void promise5() {
        sentence("`int press(boolean folds, boolean routines)`: PRESSED: FOLDED or not, with ROUTINES or without: "
            + "how many words the IMAGE has;");
        LinkPress x = program(row("abcdabcd."), row("abcdabcd."), row("xabcd."));
        int[][] ways = {{0, 0, 9 + 9 + 6, 3, 0}, {1, 0, 9 + 6, 2, 0}, {0, 1, 3 + 3 + 3 + 5, 3, 1},
            {1, 1, 3 + 3 + 5, 2, 1}};
        for (int round = 0; round < 2; round++) {
            for (int[] way : ways) {
                due("press", x.press(way[0] == 1, way[1] == 1), way[2]);
                due("count(3)", x.count(3), way[2]);
                due("count(4)", x.count(4), way[3]);
                due("count(5)", x.count(5), way[4]);
                due("the last word", x.word(way[2] - 1), way[1] == 1 ? 5 << 15 | 0x67 : 0x8067);
                due("a word more", x.word(way[2]), 0);
            }
        }
        due("the least", program(f(i(RET))).press(true, true), 1);
    }

    private void promise5Refusals() {
        sentence("-1 to -4 refused (the IMAGE, and all that was told of it, stays).");
        int[][] open = {{PRINT, 0}, {JUMP, 39}, {TAIL, 23}};
        for (int k = 0; k <= open.length; k++) {
            LinkPress x = program(row("abcdabcd."));
            due("press", x.press(true, true), 8);
            due("run(1, 9)", x.run(1, 9), FUEL);
            due("function()", x.function(), 1);
            if (k < open.length) {
                due("put", x.put(1, open[k][0], open[k][1], 0, 0), 0);
            }
            due("refused", x.press(false, false), k == 1 ? -3 : k == 2 ? -4 : -2);
            imageStays(x);
        }
        // the first reason leaves no IMAGE to stay: there was none
        LinkPress y = new LinkPress();
        due("refused", y.press(true, true), -1);
        due("count(3)", y.count(3), 0);
        due("run(1, 9)", y.run(1, 9), NONE);
        due("ran(1, 0)", y.ran(1, 0), NONE);
    }

    private void imageStays(LinkPress x) {
        int[] counts = {8, 1, 1, 4};
        for (int k = 0; k < 4; k++) {
            due("count(" + (3 + k) + ")", x.count(3 + k), counts[k]);
        }
        due("word(0)", x.word(0), 12 << 20 | 5 << 7 | 0x6F);
        due("word(7)", x.word(7), 5 << 15 | 0x67);
        due("routine(0, 1)", x.routine(0, 1), 2);
        due("occurrence(0, 1, 1)", x.occurrence(0, 1, 1), 4);
        due("occurrence(0, 1, 2)", x.occurrence(0, 1, 2), 4100);
        due("body(0, 0)", x.body(0, 0), 0);
        due("body(0, 1)", x.body(0, 1), 4096);
        due("body(1, 0)", x.body(1, 0), NONE);
        due("ran(1, 1)", x.ran(1, 1), 9);
        due("run(1, 99)", x.run(1, 99), ENDS);
        due("ran(1, 1)", x.ran(1, 1), 13);
    }

    private void promise6() {
        sentence("`int about(int function, int what)`: As the FUNCTIONS are now, of one of them what 0: INSTRUCTIONS, "
            + "1: 1 if it is TAKEN, else 0, 2: the least of its CLASS (by those that there are).");
        LinkPress x = program(f(i(RET)), f(i(PRINT), i(RET)), f(i(RET)));
        int[][] before = {{1, 0, 0}, {2, 0, 1}, {1, 0, 0}};
        int[][] after = {{1, 0, 0}, {3, 0, 1}, {2, 1, 2}};
        aboutIs(x, before);
        due("press", x.press(true, true), 3);
        due("put", x.put(1, ADDR, 6, 2, 0), 2);
        due("put", x.put(2, RET, 0, 0, 0), 1);
        aboutIs(x, after);
        // the BODIES of the IMAGE are those of then
        due("body(2, 0)", x.body(2, 0), 0);
        due("refused", x.press(true, true), -2);
        aboutIs(x, after);
        // by those that there are: what calls others that there are not
        LinkPress y = program(f(i(CALL, 20)), f(i(CALL, 21)), f(i(CALL, 20)));
        aboutIs(y, new int[][] {{1, 0, 0}, {1, 0, 1}, {1, 0, 0}});
        aboutIs(functions(2), new int[][] {{0, 0, 0}, {0, 0, 0}});
        aboutIs(program(times(40, i(ADDR, 6, 0))), new int[][] {{40, 1, 0}});
    }

    private void aboutIs(LinkPress x, int[][] want) {
        for (int f = 0; f < want.length; f++) {
            for (int what = 0; what < 3; what++) {
                due("about(" + f + ", " + what + ")", x.about(f, what), want[f][what]);
            }
        }
    }

    private void promise6Refusals() {
        sentence("2: the least of its CLASS (by those that there are). NONE without it, or for another what.");
        LinkPress x = program(f(i(ADDR, 6, 2)), f(i(CALL, 3)));
        for (int f : new int[] {-1, 2, 3, 23, 24, LEAST, MOST}) {
            for (int what = 0; what < 3; what++) {
                due("about(" + f + ", " + what + ")", x.about(f, what), NONE);
            }
        }
        for (int what : new int[] {-1, 3, LEAST, MOST}) {
            due("about(0, " + what + ")", x.about(0, what), NONE);
            due("about(2, " + what + ")", x.about(2, what), NONE);
        }
    }

    private void promise7() {
        sentence("`int body(int function, int what)`: Of the IMAGE, of a FUNCTION that was there, what 0: its BODY, "
            + "1: the address of that.");
        // 1 to 4 are the same, 2 and 3 are TAKEN
        LinkPress x = program(f(i(ADDR, 6, 3), i(ADDR, 7, 2), i(CALL, 4), i(RET)), f(i(RET)), f(i(RET)), f(i(RET)),
            f(i(RET)));
        due("press", x.press(true, true), 8);
        bodiesAre(x, new int[] {0, 2, 2, 3, 2}, new int[] {4096, 4120, 4120, 4124, 4120});
        x.put(1, RET, 0, 0, 0);
        bodiesAre(x, new int[] {0, 2, 2, 3, 2}, new int[] {4096, 4120, 4120, 4124, 4120});
        due("press", x.press(true, true), 10);
        bodiesAre(x, new int[] {0, 1, 2, 3, 2}, new int[] {4096, 4120, 4128, 4132, 4128});
        due("press", x.press(false, true), 11);
        bodiesAre(x, new int[] {0, 1, 2, 3, 4}, new int[] {4096, 4120, 4128, 4132, 4136});
    }

    private void bodiesAre(LinkPress x, int[] body, int[] address) {
        for (int f = 0; f < body.length; f++) {
            due("body(" + f + ", 0)", x.body(f, 0), body[f]);
            due("body(" + f + ", 1)", x.body(f, 1), address[f]);
        }
    }

    private void promise7Refusals() {
        sentence("1: the address of that. NONE without.");
        LinkPress x = program(f(i(RET)), f(i(RET)));
        noBody(x, 0, 0, 1);
        due("press", x.press(true, true), 1);
        noBody(x, 2, 0, 1);
        noBody(x, 24, 0, 1);
        noBody(x, 0, 2, 3);
        for (int wrong : WRONG) {
            noBody(x, wrong, 0, 1);
            noBody(x, 0, wrong, wrong);
        }
        // one that was not there then
        x.function();
        x.put(2, RET, 0, 0, 0);
        noBody(x, 2, 0, 1);
        due("press", x.press(true, true), 1);
        due("body(2, 0)", x.body(2, 0), 0);
        x.clear();
        noBody(x, 0, 0, 1);
        x.function();
        noBody(x, 0, 0, 1);
    }

    private void noBody(LinkPress x, int f, int what, int other) {
        due("body(" + f + ", " + what + ")", x.body(f, what), NONE);
        due("body(" + f + ", " + other + ")", x.body(f, other), NONE);
    }

    /** abcd in 0 behind a PRINT, twice in 1 with an ADDR between, and wxyz twice behind that. */
    private LinkPress withRoutines() {
        LinkPress x = program(join(f(i(PRINT)), row("abcd.")),
            join(row("abcd"), f(i(ADDR, 6, 0)), row("abcd.wxyz.wxyz"), f(i(JUMP, 5))));
        due("press", x.press(true, true), 3 + 9 + 5 + 5);
        return x;
    }

    private void promise8() {
        sentence("`int routine(int k, int what)`: Of ROUTINE k, what 0: INSTRUCTIONS, 1: OCCURRENCES, "
            + "2: bytes that it SAVES, 3: its address.");
        LinkPress x = withRoutines();
        int[][] routines = {{4, 3, 16, 4096 + 48}, {4, 2, 4, 4096 + 68}};
        for (int k = 0; k < 2; k++) {
            for (int what = 0; what < 4; what++) {
                due("routine(" + k + ", " + what + ")", x.routine(k, what), routines[k][what]);
            }
        }
        x.put(0, RET, 0, 0, 0);
        due("routine(0, 1), as it was pressed", x.routine(0, 1), 3);
    }

    private void promise8Refusals() {
        sentence("3: its address. NONE without it, or for another what.");
        LinkPress x = withRoutines();
        for (int what = 0; what < 4; what++) {
            for (int k : new int[] {-1, 2, 59, 60, LEAST, MOST}) {
                due("routine(" + k + ", " + what + ")", x.routine(k, what), NONE);
            }
        }
        for (int what : new int[] {-1, 4, LEAST, MOST}) {
            due("routine(0, " + what + ")", x.routine(0, what), NONE);
        }
        due("press", x.press(true, false), 6 + 21);
        due("routine(0, 0) without ROUTINES", x.routine(0, 0), NONE);
        due("routine(0, 0) without an IMAGE", functions(1).routine(0, 0), NONE);
    }

    private void promise9() {
        sentence("`int occurrence(int k, int i, int what)`: Of OCCURRENCE i of ROUTINE k, what 0: its BODY, "
            + "1: the place of its first INSTRUCTION there, as told, 2: the address of its word.");
        LinkPress x = withRoutines();
        int[][][] occurrences = {{{0, 1, 4100}, {1, 0, 4108}, {1, 5, 4120}}, {{1, 10, 4128}, {1, 15, 4136}}};
        for (int k = 0; k < 2; k++) {
            for (int n = 0; n < occurrences[k].length; n++) {
                for (int what = 0; what < 3; what++) {
                    due("occurrence(" + k + ", " + n + ", " + what + ")", x.occurrence(k, n, what),
                        occurrences[k][n][what]);
                }
            }
        }
        due("the JUMP goes to the word of (0, 2)", x.word(11), 0xFEDFF06F);
    }

    private void promise9Refusals() {
        sentence("NONE likewise.");
        LinkPress x = withRoutines();
        for (int what = 0; what < 3; what++) {
            due("occurrence(0, 3, " + what + ")", x.occurrence(0, 3, what), NONE);
            due("occurrence(1, 2, " + what + ")", x.occurrence(1, 2, what), NONE);
            due("occurrence(2, 0, " + what + ")", x.occurrence(2, 0, what), NONE);
            for (int wrong : WRONG) {
                due("occurrence(0, " + wrong + ", " + what + ")", x.occurrence(0, wrong, what), NONE);
                due("occurrence(1, " + wrong + ", " + what + ")", x.occurrence(1, wrong, what), NONE);
                due("occurrence(" + wrong + ", 0, " + what + ")", x.occurrence(wrong, 0, what), NONE);
            }
        }
        for (int what : new int[] {-1, 3, LEAST, MOST}) {
            due("occurrence(0, 0, " + what + ")", x.occurrence(0, 0, what), NONE);
        }
        x.press(false, false);
        due("occurrence(0, 0, 0) without ROUTINES", x.occurrence(0, 0, 0), NONE);
    }

    private void promise10() {
        sentence("`int word(int i)`: Word i of the IMAGE; 0 without it.");
        LinkPress x = program(f(i(LUI, 6, 524288), i(PRINT), i(RET)));
        due("word(0) without an IMAGE", x.word(0), 0);
        x.press(false, false);
        due("word(0)", x.word(0), 0x80000337);
        due("word(2)", x.word(2), 0x8067);
        for (int k : new int[] {-1, 3, 4, 599, 600, 4096, LEAST, MOST}) {
            due("word(" + k + ")", x.word(k), 0);
        }
        // a shorter IMAGE has nothing of the longer one
        x.clear();
        x.function();
        x.put(0, RET, 0, 0, 0);
        due("word(0) before it is pressed", x.word(0), 0);
        x.press(false, false);
        due("word(0)", x.word(0), 0x8067);
        due("word(1)", x.word(1), 0);
        due("word(2)", x.word(2), 0);
    }

    private void promise16() {
        sentence("`int count(int what)`: What 0: FUNCTIONS, 1: INSTRUCTIONS, 2: CLASSES; of the IMAGE 3: words, "
            + "4: BODIES, 5: ROUTINES, 6: bytes that ROUTINES SAVE.");
        LinkPress x = program(f(i(CALL, 1), i(CALL, 2), i(JUMP, 0)), row("abababab."), row("abababab."));
        countsAre(x, 3, 21, 2, 0, 0, 0, 0);
        due("press(true, true)", x.press(true, true), 11);
        countsAre(x, 3, 21, 2, 11, 2, 1, 4);
        due("press(false, true)", x.press(false, true), 14);
        countsAre(x, 3, 21, 2, 14, 3, 1, 28);
        due("press(false, false)", x.press(false, false), 21);
        countsAre(x, 3, 21, 2, 21, 3, 0, 0);
        // 0 to 2 are as they are now, 3 to 6 as they were pressed
        x.function();
        x.put(2, RET, 0, 0, 0);
        countsAre(x, 4, 22, 4, 21, 3, 0, 0);
        LinkPress y = withRoutines();
        countsAre(y, 2, 26, 2, 22, 2, 2, 20);
    }

    private void countsAre(LinkPress x, int... want) {
        for (int what = 0; what < want.length; what++) {
            due("count(" + what + ")", x.count(what), want[what]);
        }
    }

    private void promise16Refusals() {
        sentence("NONE for others; 0 for 3 to 6 without an IMAGE.");
        LinkPress x = program(f(i(PRINT)));
        for (int round = 0; round < 2; round++) {
            for (int what : new int[] {-1, 7, 8, LEAST, MOST}) {
                due("count(" + what + ")", x.count(what), NONE);
            }
            x.put(0, RET, 0, 0, 0);
            countsAre(x, 1, 2 + round, 1, round * 2, round, 0, 0);
            x.press(true, true);
        }
        x.clear();
        countsAre(x, 0, 0, 0, 0, 0, 0, 0);
        due("refused", x.press(true, true), -1);
        countsAre(x, 0, 0, 0, 0, 0, 0, 0);
    }
}
