/** Each promise of the document by answers reckoned by hand: what is usual, the edges, wrong input. */
public final class PromisesTest {
    private static final int NONE = LinkPress.NONE;
    private static final int RET = 31;
    private static final Checks CHECKS = new Checks("PromisesTest");

    public static void main(String[] args) {
        promise1();
        promise2();
        promise3();
        promise3Limits();
        promise4();
        promise5Refusals();
        promise5Stays();
        promise6();
        promise6Congruence();
        promise7();
        promise8And9();
        promise8Fit();
        promise8Choice();
        promise8Overlaps();
        promise10();
        promise11Told();
        promise11Values();
        promise11Fuel();
        promise11Image();
        promise12();
        promise13();
        promise14And15();
        promise16();
        CHECKS.end();
    }

    private static void due(String call, long got, long want) {
        CHECKS.due(call, got, want);
    }

    private static LinkPress withFunctions(int n) {
        LinkPress x = new LinkPress();
        for (int f = 0; f < n; f++) {
            x.function();
        }
        return x;
    }

    /** Rows of function, number, a, b, c. */
    private static LinkPress program(int functions, int[][] rows) {
        LinkPress x = withFunctions(functions);
        for (int[] r : rows) {
            CHECKS.holds("it is put", x.put(r[0], r[1], r[2], r[3], r[4]) != NONE);
        }
        return x;
    }

    private static void promise1() {
        LinkPress x = new LinkPress();
        due("NONE", NONE, -1);
        for (int what = 0; what <= 6; what++) {
            due("count(" + what + ") of a new one", x.count(what), 0);
        }
        due("about(0, 0) of a new one", x.about(0, 0), NONE);
        due("body(0, 0) of a new one", x.body(0, 0), NONE);
        due("body(0, 1) of a new one", x.body(0, 1), NONE);
        due("routine(0, 0) of a new one", x.routine(0, 0), NONE);
        due("occurrence(0, 0, 0) of a new one", x.occurrence(0, 0, 0), NONE);
        due("word(0) of a new one", x.word(0), 0);
        for (int which = 0; which <= 1; which++) {
            due("run of a new one", x.run(which, 10), NONE);
            for (int what = 0; what <= 4; what++) {
                due("ran of a new one", x.ran(which, what), NONE);
            }
            due("printed of a new one", x.printed(which, 0), 0);
            due("register of a new one", x.register(which, 1), 0);
            due("memory of a new one", x.memory(which, 0), 0);
        }
    }

    private static void promise2() {
        LinkPress x = new LinkPress();
        for (int f = 0; f < 24; f++) {
            due("function()", x.function(), f);
        }
        due("function() beyond 24", x.function(), NONE);
        due("count(0)", x.count(0), 24);
        x.clear();
        due("function() after clear()", x.function(), 0);
    }

    private static void promise3() {
        LinkPress x = withFunctions(2);
        due("put at 0", x.put(0, 34, -9, 99, 999), 0);
        due("put at 1", x.put(1, 34, 0, 0, 0), 0);
        due("put at 0 again", x.put(0, RET, Integer.MIN_VALUE, -1, 40), 1);
        due("put at no function", x.put(2, RET, 0, 0, 0), NONE);
        due("put at function -1", x.put(-1, RET, 0, 0, 0), NONE);
        due("put of number 35", x.put(0, 35, 0, 0, 0), NONE);
        due("put of number -1", x.put(0, -1, 0, 0, 0), NONE);
        due("about(0, 0)", x.about(0, 0), 2);
        // low and high of each of a, b, c that is told; an equal pair: it is not told
        int r = 31;
        int any = Integer.MAX_VALUE;
        for (int n = 0; n < 35; n++) {
            int[] high = {r, r, r};
            if (n >= 10 && n <= 15 || n == 20 || n == 21) high = new int[] {r, r, 2047};
            if (n == 19) high = new int[] {r, 1048575, any};
            if (n >= 22 && n <= 27) high = new int[] {r, r, 39};
            if (n == 28) high = new int[] {39, any, any};
            if (n == 29 || n == 30) high = new int[] {23, any, any};
            if (n == RET || n == 34) high = new int[] {any, any, any};
            if (n == 32) high = new int[] {r, 23, any};
            if (n == 33) high = new int[] {r, any, any};
            edgesOf(n, high);
        }
    }

    private static void edgesOf(int n, int[] high) {
        for (int i = 0; i < 3; i++) {
            int low = high[i] == 2047 ? -2048 : 0;
            boolean told = high[i] != Integer.MAX_VALUE;
            boolean isRegister = high[i] == 31 && !(n >= 16 && n <= 18 && i == 2);
            int[] args = {0, 0, 0};
            String call = "put of number " + n + ", edge of argument " + i;
            LinkPress x = withFunctions(1);
            args[i] = high[i];
            due(call, x.put(0, n, args[0], args[1], args[2]), 0);
            args[i] = low;
            due(call, x.put(0, n, args[0], args[1], args[2]), 1);
            args[i] = high[i] + 1;
            due(call, x.put(0, n, args[0], args[1], args[2]), told ? NONE : 2);
            args[i] = told ? low - 1 : Integer.MIN_VALUE;
            due(call, x.put(0, n, args[0], args[1], args[2]), told ? NONE : 3);
            args[i] = 5;
            due(call, x.put(0, n, args[0], args[1], args[2]), isRegister ? NONE : told ? 2 : 4);
        }
    }

    private static void promise3Limits() {
        LinkPress x = withFunctions(9);
        for (int f = 0; f < 7; f++) {
            for (int i = 0; i < 40; i++) {
                due("put", x.put(f, 34, 0, 0, 0), i);
            }
            due("put of a 41st", x.put(f, 34, 0, 0, 0), NONE);
        }
        for (int i = 0; i < 20; i++) {
            due("put", x.put(7, 34, 0, 0, 0), i);
        }
        due("put of a 301st", x.put(7, 34, 0, 0, 0), NONE);
        due("put of a 301st elsewhere", x.put(8, RET, 0, 0, 0), NONE);
        due("count(1)", x.count(1), 300);
        due("about(7, 0)", x.about(7, 0), 20);
        due("about(8, 0)", x.about(8, 0), 0);
    }

    private static void promise4() {
        LinkPress x = program(2, new int[][] {{0, 10, 6, 0, 3}, {0, RET, 0, 0, 0}, {1, RET, 0, 0, 0}});
        due("press", x.press(false, true), 3);
        due("run(0, 9)", x.run(0, 9), 0);
        due("run(1, 1)", x.run(1, 1), 1);
        due("clear()", x.clear(), 2);
        due("clear() again", x.clear(), 0);
        for (int what = 0; what <= 6; what++) {
            due("count(" + what + ") after clear()", x.count(what), 0);
        }
        due("word(0) after clear()", x.word(0), 0);
        due("body(0, 0) after clear()", x.body(0, 0), NONE);
        due("run(0, 9) after clear()", x.run(0, 9), NONE);
        due("run(1, 9) after clear()", x.run(1, 9), NONE);
        due("the run as told is still known", x.ran(0, 1), 2);
        due("the run of the image is still known", x.ran(1, 3), 4100);
        due("its register too", x.register(1, 6), 3);
        due("function() after clear()", x.function(), 0);
        due("about(0, 0) after clear()", x.about(0, 0), 0);
        due("put after clear()", x.put(0, RET, 0, 0, 0), 0);
        x.put(0, 32, 6, 0, 0);
        x.clear();
        x.function();
        due("no longer TAKEN", x.about(0, 1), 0);
    }

    private static void promise5Refusals() {
        LinkPress x = new LinkPress();
        due("press of none", x.press(true, true), -1);
        x.function();
        due("press of an empty one", x.press(true, true), -2);
        int[] open = {0, 10, 16, 19, 20, 21, 22, 27, 29, 32, 33, 34};
        for (int n : open) {
            LinkPress y = program(1, new int[][] {{0, n, 0, 0, 0}});
            due("press with " + n + " at the end", y.press(false, false), -2);
        }
        for (int n : new int[] {28, 30, RET}) {
            LinkPress y = program(1, new int[][] {{0, n, 0, 0, 0}});
            due("press with " + n + " at the end", y.press(false, false), 1);
        }
        for (int n = 22; n <= 27; n++) {
            due("a branch behind the last",
                program(1, new int[][] {{0, n, 6, 7, 2}, {0, RET, 0, 0, 0}}).press(true, true), -3);
            due("a branch to the last",
                program(1, new int[][] {{0, n, 6, 7, 1}, {0, RET, 0, 0, 0}}).press(true, true), 2);
        }
        due("a jump behind the last", program(1, new int[][] {{0, 28, 1, 0, 0}}).press(true, true), -3);
        due("a call of no function",
            program(1, new int[][] {{0, 29, 1, 0, 0}, {0, RET, 0, 0, 0}}).press(true, true), -4);
        due("a tail of no function", program(1, new int[][] {{0, 30, 1, 0, 0}}).press(true, true), -4);
        due("an address of no function",
            program(1, new int[][] {{0, 32, 6, 1, 0}, {0, RET, 0, 0, 0}}).press(true, true), -4);
        // the least of several, wherever they are
        LinkPress z = program(3, new int[][] {{0, 30, 9, 0, 0}, {1, 28, 7, 0, 0}});
        due("4 and 3 and 2", z.press(true, true), -2);
        z.put(2, RET, 0, 0, 0);
        due("4 and 3", z.press(true, true), -3);
        due("no image", z.count(3), 0);
    }

    private static void promise5Stays() {
        LinkPress x = program(1, new int[][] {
            {0, 10, 6, 0, 1}, {0, 10, 7, 0, 2}, {0, 10, 8, 0, 3}, {0, 10, 9, 0, 4},
            {0, 10, 6, 0, 1}, {0, 10, 7, 0, 2}, {0, 10, 8, 0, 3}, {0, 10, 9, 0, 4}, {0, RET, 0, 0, 0}});
        due("press", x.press(true, true), 8);
        int first = x.word(0);
        x.function();
        due("refused", x.press(false, false), -2);
        due("count(3)", x.count(3), 8);
        due("count(4)", x.count(4), 1);
        due("count(5)", x.count(5), 1);
        due("count(6)", x.count(6), 4);
        due("word(0)", x.word(0), first);
        due("routine(0, 1)", x.routine(0, 1), 2);
        due("occurrence(0, 1, 1)", x.occurrence(0, 1, 1), 4);
        due("body(0, 0)", x.body(0, 0), 0);
        due("body(1, 0): it was not there", x.body(1, 0), NONE);
        due("run(1, 99)", x.run(1, 99), 0);
        due("ran(1, 1)", x.ran(1, 1), 13);
        x.put(1, RET, 0, 0, 0);
        due("body(1, 0): not yet pressed", x.body(1, 0), NONE);
        due("pressed anew without routines", x.press(false, false), 10);
        due("count(5)", x.count(5), 0);
        due("count(6)", x.count(6), 0);
        due("routine(0, 0)", x.routine(0, 0), NONE);
        due("body(1, 1)", x.body(1, 1), 4096 + 36);
    }

    private static void promise6() {
        LinkPress x = program(3, new int[][] {{0, 29, 20, 0, 0}, {1, 29, 21, 0, 0}, {2, 32, 6, 1, 0}});
        due("about(0, 0)", x.about(0, 0), 1);
        due("about(1, 1)", x.about(1, 1), 1);
        due("about(0, 1)", x.about(0, 1), 0);
        due("about(2, 1)", x.about(2, 1), 0);
        due("about(1, 2): two that there are not", x.about(1, 2), 1);
        for (int f : new int[] {-1, 3, 24, Integer.MAX_VALUE, Integer.MIN_VALUE}) {
            for (int what = 0; what <= 2; what++) {
                due("about of none", x.about(f, what), NONE);
            }
        }
        due("about(0, -1)", x.about(0, -1), NONE);
        due("about(0, 3)", x.about(0, 3), NONE);
        x.put(2, 32, 6, 2, 0);
        due("TAKEN by itself", x.about(2, 1), 1);
        x.put(2, 32, 6, 5, 0);
        for (int f = 3; f < 6; f++) {
            due("function()", x.function(), f);
        }
        due("TAKEN before it was there", x.about(5, 1), 1);
        due("empty ones stand together", x.about(5, 2), 3);
        due("count(2)", x.count(2), 4);
        // the same that there is not, then the same that there is
        LinkPress y = program(2, new int[][] {{0, 29, 2, 1, 1}, {1, 29, 2, 7, 7}});
        due("both call one that there is not", y.about(1, 2), 0);
        y.function();
        due("both call one that there is", y.about(1, 2), 0);
        // one that there is not stands together with no other
        LinkPress z = program(2, new int[][] {{0, 29, 1, 0, 0}, {1, 29, 2, 0, 0}});
        due("one calls what there is not", z.about(1, 2), 1);
    }

    private static void promise6Congruence() {
        // two that call themselves and two that call one another are all the same
        LinkPress x = program(4, new int[][] {
            {0, 29, 0, 0, 0}, {0, RET, 0, 0, 0}, {1, 29, 1, 0, 0}, {1, RET, 0, 0, 0},
            {2, 29, 3, 0, 0}, {2, RET, 0, 0, 0}, {3, 29, 2, 0, 0}, {3, RET, 0, 0, 0}});
        for (int f = 0; f < 4; f++) {
            due("about(" + f + ", 2)", x.about(f, 2), 0);
        }
        due("count(2)", x.count(2), 1);
        x.put(3, 34, 0, 0, 0);
        due("its length parts 3", x.about(3, 2), 3);
        due("its call parts 2", x.about(2, 2), 2);
        due("0 and 1 stand together", x.about(1, 2), 0);
        due("count(2)", x.count(2), 3);
        // a chain is parted from its end on, one by one
        LinkPress y = withFunctions(24);
        for (int f = 0; f < 23; f++) {
            y.put(f, 30, f + 1, 0, 0);
        }
        y.put(23, RET, 0, 0, 0);
        due("a chain of 24", y.count(2), 24);
        // what parts: CALL and TAIL, other registers, other functions of ADDR, other places
        parts(new int[] {29, 2, 0, 0}, new int[] {30, 2, 0, 0}, true);
        parts(new int[] {29, 2, 4, 4}, new int[] {29, 3, 5, 5}, false);
        parts(new int[] {30, 2, 4, 4}, new int[] {30, 3, 5, 5}, false);
        parts(new int[] {29, 0, 0, 0}, new int[] {29, 1, 0, 0}, false);
        parts(new int[] {29, 0, 0, 0}, new int[] {29, 2, 0, 0}, true);
        parts(new int[] {32, 6, 2, 0}, new int[] {32, 6, 3, 0}, true);
        parts(new int[] {32, 6, 2, 9}, new int[] {32, 6, 2, 8}, false);
        parts(new int[] {10, 6, 7, 0}, new int[] {10, 6, 7, 1}, true);
        parts(new int[] {0, 6, 7, 8}, new int[] {0, 6, 8, 7}, true);
        parts(new int[] {19, 6, 7, 8}, new int[] {19, 6, 7, 9}, false);
        parts(new int[] {22, 6, 7, 0}, new int[] {22, 6, 7, 1}, true);
        parts(new int[] {28, 0, 1, 1}, new int[] {28, 0, 2, 2}, false);
        parts(new int[] {28, 0, 1, 1}, new int[] {28, 1, 1, 1}, true);
        parts(new int[] {34, 1, 2, 3}, new int[] {34, 4, 5, 6}, false);
        parts(new int[] {33, 6, 2, 3}, new int[] {33, 6, 5, 6}, false);
    }

    /** 0 and 1 differ in one instruction; 2 and 3 are the same. */
    private static void parts(int[] s, int[] t, boolean apart) {
        LinkPress x = program(4, new int[][] {
            {0, s[0], s[1], s[2], s[3]}, {1, t[0], t[1], t[2], t[3]}, {0, RET, 0, 0, 0},
            {1, RET, 3, 3, 3}, {2, RET, 1, 2, 3}, {3, RET, 4, 5, 6}});
        due(s[0] + " and " + t[0] + ": about(1, 2)", x.about(1, 2), apart ? 1 : 0);
        due(s[0] + " and " + t[0] + ": about(3, 2)", x.about(3, 2), 2);
    }

    private static void promise7() {
        // 1 to 4 are the same, 2 and 3 are TAKEN
        LinkPress x = program(5, new int[][] {
            {0, 32, 6, 3, 0}, {0, 32, 7, 2, 0}, {0, 29, 4, 0, 0}, {0, RET, 0, 0, 0},
            {1, RET, 0, 0, 0}, {2, RET, 0, 0, 0}, {3, RET, 0, 0, 0}, {4, RET, 0, 0, 0}});
        due("press", x.press(true, true), 8);
        int[] body = {0, 2, 2, 3, 2};
        int[] address = {4096, 4120, 4120, 4124, 4120};
        for (int f = 0; f < 5; f++) {
            due("body(" + f + ", 0)", x.body(f, 0), body[f]);
            due("body(" + f + ", 1)", x.body(f, 1), address[f]);
            due("body(" + f + ", 2)", x.body(f, 2), NONE);
            due("body(" + f + ", -1)", x.body(f, -1), NONE);
        }
        due("body(5, 0)", x.body(5, 0), NONE);
        due("body(-1, 1)", x.body(-1, 1), NONE);
        due("count(4)", x.count(4), 3);
        due("press, not folded", x.press(false, true), 10);
        for (int f = 0; f < 5; f++) {
            due("body(" + f + ", 0)", x.body(f, 0), f);
            due("body(" + f + ", 1)", x.body(f, 1), f == 0 ? 4096 : 4116 + 4 * f);
        }
        due("count(4)", x.count(4), 5);
        // 0, 1, 2 are the same; 0 and 2 are TAKEN: the least of those
        LinkPress z = program(4, new int[][] {
            {0, RET, 0, 0, 0}, {1, RET, 0, 0, 0}, {2, RET, 0, 0, 0}, {3, 32, 6, 2, 0}, {3, 32, 6, 0, 0},
            {3, RET, 0, 0, 0}});
        due("press", z.press(true, false), 7);
        due("body(1, 0)", z.body(1, 0), 0);
        due("body(2, 0)", z.body(2, 0), 2);
        // FUNCTION 0 is not its own BODY: the run begins at the BODY
        LinkPress y = program(2, new int[][] {
            {0, 32, 6, 1, 0}, {0, RET, 0, 0, 0}, {1, 32, 6, 1, 0}, {1, RET, 0, 0, 0}});
        y.function();
        y.put(2, 34, 0, 0, 0);
        y.put(2, RET, 0, 0, 0);
        due("press", y.press(true, false), 5);
        due("body(0, 0)", y.body(0, 0), 1);
        due("body(0, 1)", y.body(0, 1), 4096);
        due("body(2, 1)", y.body(2, 1), 4108);
        due("run(1, 9)", y.run(1, 9), 0);
        due("register(1, 6)", y.register(1, 6), 4096);
    }

    private static void promise8And9() {
        // the row 7 8 9 7 comes twice in function 1 and once in function 0, behind a print
        LinkPress x = program(2, new int[][] {
            {0, 34, 0, 0, 0}, {0, 10, 7, 0, 1}, {0, 10, 8, 0, 2}, {0, 10, 9, 0, 3}, {0, 10, 7, 0, 4},
            {0, RET, 0, 0, 0}, {1, 10, 7, 0, 1}, {1, 10, 8, 0, 2}, {1, 10, 9, 0, 3}, {1, 10, 7, 0, 4},
            {1, 32, 6, 0, 0}, {1, 10, 7, 0, 1}, {1, 10, 8, 0, 2}, {1, 10, 9, 0, 3}, {1, 10, 7, 0, 4},
            {1, 28, 5, 0, 0}});
        due("press", x.press(true, true), 8 + 5);
        due("routine(0, 0)", x.routine(0, 0), 4);
        due("routine(0, 1)", x.routine(0, 1), 3);
        due("routine(0, 2)", x.routine(0, 2), 16);
        due("routine(0, 3)", x.routine(0, 3), 4096 + 4 * 8);
        int[][] occurrences = {{0, 1, 4100}, {1, 0, 4108}, {1, 5, 4120}};
        for (int i = 0; i < 3; i++) {
            for (int what = 0; what < 3; what++) {
                due("occurrence(0, " + i + ", " + what + ")", x.occurrence(0, i, what), occurrences[i][what]);
            }
            due("occurrence, what 3", x.occurrence(0, i, 3), NONE);
            due("occurrence, what -1", x.occurrence(0, i, -1), NONE);
        }
        for (int bad : new int[] {-1, 1, 60, Integer.MAX_VALUE, Integer.MIN_VALUE}) {
            due("routine(" + bad + ", 0)", x.routine(bad, 0), NONE);
            due("occurrence(" + bad + ", 0, 0)", x.occurrence(bad, 0, 0), NONE);
        }
        due("occurrence(0, 3, 0)", x.occurrence(0, 3, 0), NONE);
        due("occurrence(0, -1, 0)", x.occurrence(0, -1, 0), NONE);
        due("routine(0, 4)", x.routine(0, 4), NONE);
        due("routine(0, -1)", x.routine(0, -1), NONE);
        due("the jump goes to the occurrence's word", x.word(7), 0xFFDFF06F);
        due("a routine comes back by x5", x.word(12), 5 << 15 | 0x67);
        due("jal x5 from 4120 to 4128", x.word(6), 8 << 20 | 5 << 7 | 0x6F);
        x.press(true, false);
        due("without routines", x.routine(0, 0), NONE);
    }

    /** What five instructions save that come twice; a branch parts the fifth from them in one. */
    private static int savedByTwice(int[] s, int branchTo) {
        LinkPress x = withFunctions(2);
        for (int f = 0; f < 2; f++) {
            x.put(f, 10, 6, 6, 1);
            x.put(f, s[0], s[1], s[2], s[3]);
            x.put(f, 10, 7, 7, 1);
            x.put(f, 10, 8, 8, 1);
            if (f == 1 && branchTo >= 0) {
                x.put(f, 22, 6, 7, branchTo);
            }
            x.put(f, 34, 0, 0, 0);
            x.put(f, RET, 0, 0, 0);
            if (f == 0) {
                x.put(f, RET, 0, 0, 0);
            }
        }
        x.press(false, true);
        return x.count(6);
    }

    private static void promise8Fit() {
        for (int n = 0; n <= 18; n++) {
            due("five with " + n, savedByTwice(new int[] {n, 6, 7, 8}, -1), 8);
        }
        due("five with LUI", savedByTwice(new int[] {19, 6, 1, 0}, -1), 8);
        due("five with LW", savedByTwice(new int[] {20, 6, 7, 1}, -1), 8);
        due("five with SW", savedByTwice(new int[] {21, 6, 7, 1}, -1), 8);
        due("five with PRINT", savedByTwice(new int[] {34, 1, 1, 1}, -1), 8);
        due("a shift by 1 names no register 1", savedByTwice(new int[] {16, 6, 7, 1}, -1), 8);
        for (int n = 0; n <= 9; n++) {
            due(n + " with a 1", savedByTwice(new int[] {n, 1, 7, 8}, -1), 0);
            due(n + " with b 1", savedByTwice(new int[] {n, 6, 1, 8}, -1), 0);
            due(n + " with c 1", savedByTwice(new int[] {n, 6, 7, 1}, -1), 0);
        }
        for (int n : new int[] {10, 11, 12, 13, 14, 15, 16, 17, 18, 20, 21}) {
            due(n + " with a 1", savedByTwice(new int[] {n, 1, 7, 8}, -1), 0);
            due(n + " with b 1", savedByTwice(new int[] {n, 6, 1, 8}, -1), 0);
        }
        due("LUI with a 1", savedByTwice(new int[] {19, 1, 7, 8}, -1), 0);
        for (int n : new int[] {22, 27, 28, 29, 30, RET, 32, 33}) {
            due("four and " + n, savedByTwice(new int[] {n, 0, 0, 0}, -1), 0);
        }
        int[] plain = {10, 9, 9, 1};
        due("a branch to the first", savedByTwice(plain, 0), 4);
        due("a branch to the second", savedByTwice(plain, 1), 0);
        due("a branch to the last", savedByTwice(plain, 3), 0);
        due("a branch behind the last", savedByTwice(plain, 5), 4);
    }

    /** ADDI of register 6 to 9 by what a letter is; '.' a RET. */
    private static LinkPress letters(String... functions) {
        LinkPress x = withFunctions(functions.length);
        for (int f = 0; f < functions.length; f++) {
            for (char letter : functions[f].toCharArray()) {
                if (letter == '.') {
                    x.put(f, RET, 0, 0, 0);
                } else {
                    x.put(f, 10, 6, 7, letter);
                }
            }
        }
        x.press(false, true);
        return x;
    }

    private static void dueRoutine(LinkPress x, int k, int length, int times, int saves) {
        due("routine(" + k + ", 0)", x.routine(k, 0), length);
        due("routine(" + k + ", 1)", x.routine(k, 1), times);
        due("routine(" + k + ", 2)", x.routine(k, 2), saves);
    }

    private static void promise8Choice() {
        // what saves 0 is none: 2 of 3, 3 of 2; the least that saves: 2 of 4, 3 of 3, 4 of 2
        due("2 of 3", letters("abc.abc.").count(5), 0);
        due("3 of 2", letters("ab.ab.ab.").count(5), 0);
        dueRoutine(letters("abcd.abcd."), 0, 4, 2, 4);
        dueRoutine(letters("abc.abc.abc."), 0, 3, 3, 8);
        dueRoutine(letters("ab.ab.ab.ab."), 0, 2, 4, 4);
        // the most: 4 twice save 4, their first 3 four times save 16
        dueRoutine(letters("abcd.abcd.abce.abcf."), 0, 3, 4, 16);
        // as much by 2 of 4 as by 4 of 2: the longest, though it comes later
        LinkPress x = letters("xy.xy.xy.xy.abcd.abcd.");
        dueRoutine(x, 0, 4, 2, 4);
        dueRoutine(x, 1, 2, 4, 4);
        due("count(6)", x.count(6), 8);
        // as much by the same length: the first one
        LinkPress y = letters("abcd.wxyz.", "wxyz.abcd.");
        due("occurrence(0, 0, 1)", y.occurrence(0, 0, 1), 0);
        due("occurrence(0, 1, 0)", y.occurrence(0, 1, 0), 1);
        due("occurrence(0, 1, 1)", y.occurrence(0, 1, 1), 5);
        due("occurrence(1, 0, 1)", y.occurrence(1, 0, 1), 5);
        due("occurrence(1, 1, 1)", y.occurrence(1, 1, 1), 0);
        // 20 at the longest, and what is left of 26 is a routine too
        LinkPress z = letters("abcdefghijklmnopqrstuvwxyz.", "abcdefghijklmnopqrstuvwxyz.");
        dueRoutine(z, 0, 20, 2, 4 * 17);
        dueRoutine(z, 1, 6, 2, 4 * 3);
        due("occurrence(1, 0, 1)", z.occurrence(1, 0, 1), 20);
        due("count(3)", z.count(3), 2 * 3 + 21 + 7);
        // not across two functions
        due("across", letters("ab.", "cd.ab.", "cd.").count(5), 0);
    }

    private static void promise8Overlaps() {
        // nine of the same: 4 of 2 save 4, 3 of 3 save 8, 2 of 4 save 4; the first ones count
        LinkPress x = letters("aaaaaaaaa.");
        dueRoutine(x, 0, 3, 3, 8);
        due("occurrence(0, 2, 1)", x.occurrence(0, 2, 1), 6);
        LinkPress y = letters("aaaaaaaa.");
        dueRoutine(y, 0, 4, 2, 4);
        due("count(5)", y.count(5), 1);
        // eleven: 5 of 2, 3 of 3 and 2 of 5 all save 8
        LinkPress z = letters("aaaaaaaaaaa.");
        dueRoutine(z, 0, 5, 2, 8);
        due("the eleventh is left", z.word(2), 'a' << 20 | 7 << 15 | 6 << 7 | 0x13);
        // abab overlaps: at 0 and, behind its end, at 4
        LinkPress o = letters("ababababc.");
        dueRoutine(o, 0, 4, 2, 4);
        due("occurrence(0, 1, 1)", o.occurrence(0, 1, 1), 4);
        // of folded ones only the BODY counts
        LinkPress b = letters("abcd.", "abcd.");
        due("count(5), not folded", b.count(5), 1);
        b.press(true, true);
        due("count(5), folded", b.count(5), 0);
        due("count(3), folded", b.count(3), 5);
    }

    private static void promise10() {
        LinkPress x = program(1, new int[][] {{0, 19, 6, 524288, 0}, {0, RET, 0, 0, 0}});
        x.press(false, false);
        due("word(0)", x.word(0), 0x80000337);
        due("word(1)", x.word(1), 0x8067);
        for (int i : new int[] {-1, 2, 599, 600, Integer.MAX_VALUE, Integer.MIN_VALUE}) {
            due("word(" + i + ")", x.word(i), 0);
        }
    }

    /** The run as told: how, steps, function, place. */
    private static void told(String name, LinkPress x, int fuel, int... want) {
        due(name + ": run(0, " + fuel + ")", x.run(0, fuel), want[0]);
        due(name + ": ran(0, 0)", x.ran(0, 0), want[0]);
        due(name + ": ran(0, 1)", x.ran(0, 1), want[1]);
        due(name + ": ran(0, 3)", x.ran(0, 3), want[2]);
        due(name + ": ran(0, 4)", x.ran(0, 4), want[3]);
    }

    private static void promise11Told() {
        told("an empty one", withFunctions(1), 9, 2, 0, 0, 0);
        told("a call of none", program(1, new int[][] {{0, 29, 7, 0, 0}}), 9, 2, 1, 7, 0);
        LinkPress cleared = program(2, new int[][] {{0, 34, 0, 0, 0}, {0, 34, 0, 0, 0}, {1, 34, 0, 0, 0}});
        cleared.clear();
        cleared.function();
        cleared.put(0, 29, 1, 0, 0);
        told("a call of one that was cleared", cleared, 9, 2, 1, 1, 0);
        told("a tail of none", program(1, new int[][] {{0, 30, 23, 0, 0}}), 9, 2, 1, 23, 0);
        told("a jump to none", program(1, new int[][] {{0, 28, 39, 0, 0}}), 9, 2, 1, 0, 39);
        told("a branch to none", program(1, new int[][] {{0, 22, 0, 0, 9}}), 9, 2, 1, 0, 9);
        told("a branch not taken", program(1, new int[][] {{0, 23, 0, 0, 9}}), 9, 2, 1, 0, 1);
        told("an address of none", program(1, new int[][] {{0, 32, 6, 9, 0}, {0, 33, 6, 0, 0}}), 9,
            2, 2, 9, 0);
        told("behind the end, come back to", program(2, new int[][] {
            {0, 29, 1, 0, 0}, {1, RET, 0, 0, 0}}), 9, 2, 2, 0, 1);
        told("register 1 is lost", program(2, new int[][] {
            {0, 29, 1, 0, 0}, {0, RET, 0, 0, 0}, {1, RET, 0, 0, 0}}), 9, 1, 9, 0, 1);
        told("a tail keeps register 1", program(2, new int[][] {
            {0, 30, 1, 0, 0}, {1, RET, 0, 0, 0}}), 9, 0, 2, NONE, NONE);
        told("an icall by register 1", program(2, new int[][] {
            {0, 10, 6, 1, 0}, {0, 32, 1, 1, 0}, {0, 33, 1, 0, 0}, {0, 10, 1, 6, 0}, {0, RET, 0, 0, 0},
            {1, RET, 0, 0, 0}}), 9, 0, 6, NONE, NONE);
        told("a branch on two of the same", program(1, new int[][] {
            {0, 32, 6, 3, 0}, {0, 32, 7, 3, 0}, {0, 22, 6, 7, 4}, {0, 34, 0, 0, 0}, {0, 23, 6, 7, 3},
            {0, RET, 0, 0, 0}}), 9, 0, 5, NONE, NONE);
        told("a branch on two others", program(1, new int[][] {
            {0, 32, 6, 3, 0}, {0, 32, 7, 4, 0}, {0, 22, 6, 7, 9}, {0, 23, 6, 7, 5}, {0, 34, 0, 0, 0},
            {0, RET, 0, 0, 0}}), 9, 0, 5, NONE, NONE);
    }

    /** Register 6 is an address, 1 a return, 3 points to memory; then one instruction. */
    private static void afterValues(int[] s, boolean goesOn) {
        LinkPress x = program(2, new int[][] {
            {0, 32, 6, 1, 0}, {0, 19, 3, 16, 0}, {0, s[0], s[1], s[2], s[3]}, {0, 34, 0, 0, 0},
            {0, 34, 0, 0, 0}, {1, 34, 0, 0, 0}});
        due("put " + s[0] + ", " + s[1] + ", " + s[2] + ", " + s[3], x.run(0, 3), goesOn ? 1 : 2);
        due("steps of it", x.ran(0, 1), goesOn ? 3 : 2);
        if (!goesOn) {
            due("it is at it", x.ran(0, 4), 2);
        }
    }

    private static void promise11Values() {
        for (int v : new int[] {1, 6}) {
            for (int n = 0; n <= 9; n++) {
                afterValues(new int[] {n, 7, v, 0}, false);
                afterValues(new int[] {n, 7, 0, v}, false);
                afterValues(new int[] {n, v, 0, 0}, true);
                afterValues(new int[] {n, 0, v, v}, false);
            }
            for (int n = 10; n <= 18; n++) {
                afterValues(new int[] {n, 7, v, 0}, n == 10);
                afterValues(new int[] {n, 7, v, 1}, false);
                afterValues(new int[] {n, 0, v, 1}, false);
            }
            afterValues(new int[] {20, 7, v, 0}, false);
            afterValues(new int[] {21, 7, v, 0}, false);
            afterValues(new int[] {21, v, 3, 0}, true);
            for (int n = 22; n <= 27; n++) {
                afterValues(new int[] {n, v, 0, 3}, false);
                afterValues(new int[] {n, 0, v, 3}, false);
                afterValues(new int[] {n, v, v, 3}, v == 6 && n <= 23);
                afterValues(new int[] {n, 1, 6, 3}, false);
            }
            afterValues(new int[] {33, v, 0, 0}, v == 6);
        }
        afterValues(new int[] {33, 0, 0, 0}, false);
        for (int low : new int[] {0, 4, 252}) {
            afterValues(new int[] {20, 0, 3, low}, true);
            afterValues(new int[] {21, 0, 3, low}, true);
        }
        for (int low : new int[] {-4, 256, 1, 2, 3, -1}) {
            afterValues(new int[] {20, 0, 3, low}, false);
            afterValues(new int[] {21, 0, 3, low}, false);
        }
        afterValues(new int[] {32, 0, 1, 0}, true);
        // a return through memory, an address through memory, a print of neither
        told("values through memory", program(2, new int[][] {
            {0, 19, 3, 16, 0}, {0, 21, 1, 3, 8}, {0, 32, 7, 1, 0}, {0, 21, 7, 3, 4}, {0, 20, 8, 3, 4},
            {0, 33, 8, 0, 0}, {0, 20, 1, 3, 8}, {0, RET, 0, 0, 0}, {1, 34, 0, 0, 0}, {1, RET, 0, 0, 0}}),
            99, 0, 10, NONE, NONE);
        told("a print of an address", program(1, new int[][] {{0, 32, 10, 0, 0}, {0, 34, 0, 0, 0}}),
            9, 2, 1, 0, 1);
        told("a ret by an address", program(1, new int[][] {{0, 32, 1, 0, 0}, {0, RET, 0, 0, 0}}),
            9, 2, 1, 0, 1);
        told("an address in register 0", program(1, new int[][] {{0, 32, 0, 0, 0}, {0, 33, 0, 0, 0}}),
            9, 2, 1, 0, 1);
    }

    private static void promise11Fuel() {
        LinkPress x = program(1, new int[][] {{0, 34, 0, 0, 0}, {0, 28, 0, 0, 0}});
        x.press(false, false);
        for (int which = 0; which <= 1; which++) {
            due("most fuel", x.run(which, 20000), 1);
            due("its steps", x.ran(which, 1), 20000);
            due("its prints", x.ran(which, 2), 10000);
            for (int fuel : new int[] {0, -1, 20001, Integer.MAX_VALUE, Integer.MIN_VALUE}) {
                due("fuel " + fuel, x.run(which, fuel), NONE);
            }
            due("nothing happened", x.ran(which, 1), 20000);
            due("least fuel", x.run(which, 1), 1);
            due("its steps", x.ran(which, 1), 1);
        }
        for (int which : new int[] {-1, 2, Integer.MAX_VALUE}) {
            due("run of sort " + which, x.run(which, 10), NONE);
        }
        LinkPress y = program(1, new int[][] {{0, 34, 0, 0, 0}, {0, RET, 0, 0, 0}});
        y.press(true, true);
        for (int which = 0; which <= 1; which++) {
            due("just enough", y.run(which, 2), 0);
            due("its steps", y.ran(which, 1), 2);
            due("one too little", y.run(which, 1), 1);
        }
        // with the fuel used up nothing more is begun, so it is not UNDEFINED yet
        LinkPress z = program(1, new int[][] {{0, 28, 9, 0, 0}});
        told("fuel used up ahead of no place", z, 1, 1, 1, 0, 9);
        told("one more", z, 2, 2, 1, 0, 9);
    }

    /** The run of the image: how, steps, pc. */
    private static void ofImage(String name, LinkPress x, int fuel, int... want) {
        CHECKS.holds(name + ": it is pressed", x.press(true, true) > 0);
        due(name + ": run(1, " + fuel + ")", x.run(1, fuel), want[0]);
        due(name + ": ran(1, 0)", x.ran(1, 0), want[0]);
        due(name + ": ran(1, 1)", x.ran(1, 1), want[1]);
        due(name + ": ran(1, 3)", x.ran(1, 3), want[2]);
        due(name + ": ran(1, 4)", x.ran(1, 4), NONE);
    }

    private static LinkPress icallOf(int upper, int low) {
        return program(1, new int[][] {
            {0, 19, 6, upper, 0}, {0, 10, 6, 6, low}, {0, 33, 6, 0, 0}, {0, RET, 0, 0, 0}});
    }

    private static void promise11Image() {
        ofImage("behind the image", icallOf(1, 16), 9, 2, 3, 4112);
        ofImage("ahead of the image", icallOf(1, -4), 9, 2, 3, 4092);
        ofImage("between two words", icallOf(1, 2), 9, 2, 3, 4098);
        ofImage("the lowest bit is no part of it", icallOf(1, 13), 9, 1, 9, 4108);
        ofImage("pc 1 is pc 0", icallOf(0, 1), 9, 0, 3, 0);
        ofImage("far behind", icallOf(524288, 0), 9, 2, 3, 0x80000000);
        ofImage("far behind that", icallOf(1048575, -1), 9, 2, 3, 0xFFFFEFFE);
        for (int low : new int[] {-4, 256, 1, 2, 3}) {
            for (int n = 20; n <= 21; n++) {
                ofImage("memory at " + low, program(1, new int[][] {
                    {0, 19, 3, 16, 0}, {0, n, 6, 3, low}, {0, RET, 0, 0, 0}}), 9, 2, 1, 4100);
            }
        }
        ofImage("memory to its end", program(1, new int[][] {
            {0, 19, 3, 16, 0}, {0, 21, 3, 3, 252}, {0, 20, 6, 3, 252}, {0, 21, 3, 3, 0},
            {0, RET, 0, 0, 0}}), 9, 0, 5, 0);
        // the words are what runs: the functions of later are not
        LinkPress x = program(1, new int[][] {{0, 10, 10, 0, 1}, {0, RET, 0, 0, 0}});
        x.press(true, true);
        x.clear();
        due("without an image", x.run(1, 9), NONE);
        LinkPress y = program(1, new int[][] {{0, 10, 10, 0, 1}, {0, RET, 0, 0, 0}});
        y.press(true, true);
        y.put(0, 34, 0, 0, 0);
        y.function();
        due("the image as it was pressed", y.run(1, 9), 0);
        due("its steps", y.ran(1, 1), 2);
        // each run begins anew
        LinkPress z = program(1, new int[][] {
            {0, 19, 3, 16, 0}, {0, 20, 10, 3, 0}, {0, 10, 10, 10, 1}, {0, 21, 10, 3, 0},
            {0, 34, 0, 0, 0}, {0, RET, 0, 0, 0}});
        z.press(false, false);
        for (int i = 0; i < 4; i++) {
            due("run", z.run(i & 1, 99), 0);
            due("printed", z.printed(i & 1, 0), 1);
            due("memory", z.memory(i & 1, 0), 1);
            due("prints", z.ran(i & 1, 2), 1);
        }
    }

    private static void promise12() {
        LinkPress x = program(1, new int[][] {{0, 34, 0, 0, 0}, {0, RET, 0, 0, 0}});
        due("ran(0, 0) ahead of any", x.ran(0, 0), NONE);
        due("a run that is none", x.run(0, 0), NONE);
        due("ran(0, 0) ahead of any", x.ran(0, 0), NONE);
        x.run(0, 1);
        due("ran(0, 0)", x.ran(0, 0), 1);
        due("ran(0, 2)", x.ran(0, 2), 1);
        due("ran(0, 3)", x.ran(0, 3), 0);
        due("ran(0, 4)", x.ran(0, 4), 1);
        due("ran(1, 0) ahead of any", x.ran(1, 0), NONE);
        due("ran(1, 4) ahead of any", x.ran(1, 4), NONE);
        x.press(false, false);
        due("press is no run", x.ran(1, 0), NONE);
        x.run(1, 1);
        due("ran(1, 3)", x.ran(1, 3), 4100);
        for (int which : new int[] {-1, 2}) {
            due("ran of sort " + which, x.ran(which, 0), NONE);
        }
        for (int what : new int[] {-1, 5, Integer.MAX_VALUE}) {
            due("ran(0, " + what + ")", x.ran(0, what), NONE);
            due("ran(1, " + what + ")", x.ran(1, what), NONE);
        }
    }

    private static void promise13() {
        LinkPress x = program(1, new int[][] {
            {0, 10, 10, 10, 1}, {0, 34, 0, 0, 0}, {0, 11, 11, 10, 255}, {0, 23, 11, 0, 0},
            {0, RET, 0, 0, 0}});
        x.press(false, false);
        for (int which = 0; which <= 1; which++) {
            x.run(which, 20000);
            due("ran(" + which + ", 2)", x.ran(which, 2), 256);
            for (int i : new int[] {0, 1, 100, 199}) {
                due("printed(" + which + ", " + i + ")", x.printed(which, i), i + 1);
            }
            for (int i : new int[] {-1, 200, 255, 256, Integer.MAX_VALUE, Integer.MIN_VALUE}) {
                due("printed(" + which + ", " + i + ")", x.printed(which, i), 0);
            }
            x.run(which, 2);
            due("printed of the latest", x.printed(which, 0), 1);
            due("printed of the latest alone", x.printed(which, 1), 0);
        }
        due("printed(2, 0)", x.printed(2, 0), 0);
        due("printed(-1, 0)", x.printed(-1, 0), 0);
    }

    private static void promise14And15() {
        LinkPress x = program(2, new int[][] {
            {0, 19, 3, 16, 0}, {0, 10, 31, 0, -7}, {0, 32, 6, 1, 0}, {0, 21, 31, 3, 252},
            {0, 21, 6, 3, 4}, {0, 21, 1, 3, 8}, {0, 10, 0, 31, 0}, {0, 29, 1, 0, 0}, {1, 28, 0, 0, 0}});
        x.put(0, RET, 0, 0, 0);
        x.press(false, false);
        for (int which = 0; which <= 1; which++) {
            due("run", x.run(which, 50), 1);
            due("register(" + which + ", 0)", x.register(which, 0), 0);
            due("register(" + which + ", 3)", x.register(which, 3), 65536);
            due("register(" + which + ", 31)", x.register(which, 31), -7);
            due("register(" + which + ", 6)", x.register(which, 6), which * 4136);
            due("register(" + which + ", 1)", x.register(which, 1), which * 4132);
            due("memory(" + which + ", 63)", x.memory(which, 63), -7);
            due("memory(" + which + ", 1)", x.memory(which, 1), which * 4136);
            due("memory(" + which + ", 2)", x.memory(which, 2), 0);
            due("memory(" + which + ", 0)", x.memory(which, 0), 0);
            for (int k : new int[] {-1, 32, 64, Integer.MAX_VALUE, Integer.MIN_VALUE}) {
                due("register(" + which + ", " + k + ")", x.register(which, k), 0);
                due("memory(" + which + ", " + k + ")", x.memory(which, k), 0);
            }
        }
        due("register(2, 3)", x.register(2, 3), 0);
        due("memory(-1, 63)", x.memory(-1, 63), 0);
        reckoning();
    }

    /** Register 8 from 6 and 7 by each instruction, as told and of the image. */
    private static void reckoning() {
        int[] want = {-5 + 3, -5 - 3, -5 & 3, -5 | 3, -5 ^ 3, -40, 0x1FFFFFFF, -1, 1, 0};
        for (int n = 0; n <= 9; n++) {
            reckon(new int[] {n, 8, 6, 7}, -5, 3, want[n]);
        }
        reckon(new int[] {8, 8, 6, 7}, 3, -5, 0);
        reckon(new int[] {9, 8, 6, 7}, 3, -5, 1);
        reckon(new int[] {5, 8, 6, 7}, 1, 33, 2);
        reckon(new int[] {6, 8, 6, 7}, -1, -1, 1);
        reckon(new int[] {7, 8, 6, 7}, -64, 34, -16);
        reckon(new int[] {10, 8, 6, -2048}, 5, 0, -2043);
        reckon(new int[] {11, 8, 6, -2}, 5, 0, 4);
        reckon(new int[] {12, 8, 6, -2048}, 5, 0, -2043);
        reckon(new int[] {13, 8, 6, -1}, 5, 0, -6);
        reckon(new int[] {14, 8, 6, -1}, -2, 0, 1);
        reckon(new int[] {14, 8, 6, -1}, 5, 0, 0);
        reckon(new int[] {15, 8, 6, -1}, 5, 0, 1);
        reckon(new int[] {15, 8, 6, -1}, -1, 0, 0);
        reckon(new int[] {16, 8, 6, 31}, 5, 0, 0x80000000);
        reckon(new int[] {17, 8, 6, 31}, -5, 0, 1);
        reckon(new int[] {18, 8, 6, 31}, -5, 0, -1);
        reckon(new int[] {18, 8, 6, 0}, -5, 0, -5);
        reckon(new int[] {19, 8, 1048575, 0}, 0, 0, -4096);
        int[][] branches = {{22, 0, 1, 0}, {23, 1, 0, 1}, {24, 1, 0, 0}, {25, 0, 1, 1}, {26, 0, 0, 1},
            {27, 1, 1, 0}};
        for (int[] b : branches) {
            branch(b[0], -5, 3, b[1]);
            branch(b[0], 3, 3, b[2]);
            branch(b[0], 3, -5, b[3]);
        }
    }

    private static void reckon(int[] s, int six, int seven, int want) {
        LinkPress x = program(1, new int[][] {
            {0, 10, 6, 0, six}, {0, 10, 7, 0, seven}, {0, s[0], s[1], s[2], s[3]}, {0, RET, 0, 0, 0}});
        x.press(false, true);
        for (int which = 0; which <= 1; which++) {
            due("run", x.run(which, 9), 0);
            due("sort " + which + ": " + s[0] + " of " + six + " and " + (s[0] < 10 ? seven : s[3]),
                x.register(which, 8), want);
        }
    }

    private static void branch(int n, int six, int seven, int want) {
        LinkPress x = program(1, new int[][] {
            {0, 10, 6, 0, six}, {0, 10, 7, 0, seven}, {0, 10, 8, 0, 1}, {0, n, 6, 7, 5},
            {0, 10, 8, 0, 0}, {0, RET, 0, 0, 0}});
        x.press(false, true);
        for (int which = 0; which <= 1; which++) {
            due("run", x.run(which, 9), 0);
            due("sort " + which + ": " + n + " of " + six + " and " + seven, x.register(which, 8), want);
        }
    }

    private static void promise16() {
        LinkPress x = program(3, new int[][] {
            {0, 29, 1, 0, 0}, {0, 29, 2, 0, 0}, {0, 28, 0, 0, 0},
            {1, 10, 6, 6, 1}, {1, 34, 0, 0, 0}, {1, 10, 6, 6, 1}, {1, 34, 0, 0, 0}, {1, 10, 6, 6, 1},
            {1, 34, 0, 0, 0}, {1, 10, 6, 6, 1}, {1, 34, 0, 0, 0}, {1, RET, 0, 0, 0},
            {2, 10, 6, 6, 1}, {2, 34, 0, 0, 0}, {2, 10, 6, 6, 1}, {2, 34, 0, 0, 0}, {2, 10, 6, 6, 1},
            {2, 34, 0, 0, 0}, {2, 10, 6, 6, 1}, {2, 34, 0, 0, 0}, {2, RET, 0, 0, 0}});
        int[] unpressed = {3, 21, 2, 0, 0, 0, 0};
        int[] folded = {3, 21, 2, 11, 2, 1, 4};
        int[] unfolded = {3, 21, 2, 14, 3, 1, 28};
        for (int what = 0; what <= 6; what++) {
            due("count(" + what + ")", x.count(what), unpressed[what]);
        }
        due("press(true, true)", x.press(true, true), 11);
        for (int what = 0; what <= 6; what++) {
            due("count(" + what + ")", x.count(what), folded[what]);
        }
        due("press(false, true)", x.press(false, true), 14);
        for (int what = 0; what <= 6; what++) {
            due("count(" + what + ")", x.count(what), unfolded[what]);
        }
        for (int what : new int[] {-1, 7, Integer.MAX_VALUE, Integer.MIN_VALUE}) {
            due("count(" + what + ")", x.count(what), NONE);
        }
    }
}
