import java.util.Arrays;

/** IV. ROUTINES: which rows are FIT, where they occur, what they save, and which comes next. */
final class RoutinesPart extends Part {
    RoutinesPart(Checks checks) {
        super(checks);
    }

    void check() {
        ofTheBodies();
        ofTheBodiesAnew();
        lengthOfRows();
        notAcross();
        numbersThatAreFit();
        registerOne();
        inNoRoutineYet();
        goneTo();
        goneToFromAnywhere();
        goneToAnew();
        occurrences();
        occurrencesThatAreFit();
        sameInstructions();
        manyOccurrences();
        saves();
        theMost();
        theLongest();
        theFirst();
        fullProgram();
        moreThanZero();
        manyRoutines();
    }

    private void routineIs(LinkPress x, int k, int length, int times, int saves) {
        due("routine(" + k + ", 0)", x.routine(k, 0), length);
        due("routine(" + k + ", 1)", x.routine(k, 1), times);
        due("routine(" + k + ", 2)", x.routine(k, 2), saves);
    }

    /** Where the occurrences of a routine are: body and place of each. */
    private void occurs(LinkPress x, int k, int... where) {
        due("routine(" + k + ", 1)", x.routine(k, 1), where.length / 2);
        for (int n = 0; n < where.length / 2; n++) {
            due("occurrence(" + k + ", " + n + ", 0)", x.occurrence(k, n, 0), where[2 * n]);
            due("occurrence(" + k + ", " + n + ", 1)", x.occurrence(k, n, 1), where[2 * n + 1]);
        }
    }

    private int savedBy(int[][]... functions) {
        LinkPress x = program(functions);
        holds("it is pressed", x.press(false, true) > 0);
        return x.count(6);
    }

    private void ofTheBodies() {
        sentence("IV. ROUTINES, of the BODIES' INSTRUCTIONS (a BODY is a FUNCTION that is its own BODY), "
            + "by numbers of BODIES, place by place.");
        LinkPress x = letters("abcd.", "abcd.");
        occurs(x, 0, 0, 0, 1, 0);
        due("press(true, true)", x.press(true, true), 5);
        due("FOLDED there is one BODY alone", x.count(5), 0);
        // FUNCTION 1 is TAKEN, so the BODY of 0 is 1, and the ROW is there and in 2
        LinkPress y = program(row("abcd."), row("abcd."), join(row("xabcd"), f(i(ADDR, 6, 1), i(RET))));
        due("press(true, true)", y.press(true, true), 2 + 5 + 5);
        occurs(y, 0, 1, 0, 2, 1);
        due("press(false, true)", y.press(false, true), 2 + 2 + 5 + 5);
        occurs(y, 0, 0, 0, 1, 0, 2, 1);
        // by numbers, not as they were put
        LinkPress z = functions(2);
        for (int f = 1; f >= 0; f--) {
            for (int[] sign : row("x.abcd.")) {
                put(z, f, sign);
            }
        }
        due("press(false, true)", z.press(false, true), 13);
        occurs(z, 0, 0, 2, 1, 2);
    }

    /** What was a BODY of an earlier IMAGE is none of this one. */
    private void ofTheBodiesAnew() {
        LinkPress x = letters("abc.", "abc.", ".");
        due("abc of two saves 0", x.count(5), 0);
        for (int[] sign : row("abc.")) {
            put(x, 2, sign);
        }
        due("press(true, true)", x.press(true, true), 4 + 5);
        due("abc of two BODIES saves 0", x.count(5), 0);
        due("press(false, true)", x.press(false, true), 4 + 4 + 5 - 2);
        routineIs(x, 0, 3, 3, 8);
        due("press(true, true)", x.press(true, true), 4 + 5);
    }

    private void lengthOfRows() {
        sentence("A ROW of 2 to 20 INSTRUCTIONS one behind the other in a BODY");
        LinkPress one = letters("a.a.a.a.a.a.a.a.a.a.a.a.a.a.a.a.a.a.a.a.");
        due("rows of one", one.count(5), 0);
        LinkPress two = letters("ab.ab.ab.ab.");
        routineIs(two, 0, 2, 4, 4);
        String all = "abcdefghijklmnopqrstuvwxyz";
        LinkPress twenty = letters(all.substring(0, 20) + ".", all.substring(0, 20) + ".");
        routineIs(twenty, 0, 20, 2, 4 * 17);
        due("count(5)", twenty.count(5), 1);
        LinkPress more = letters(all.substring(0, 21) + ".", all.substring(0, 21) + ".");
        routineIs(more, 0, 20, 2, 4 * 17);
        occurs(more, 0, 0, 0, 1, 0);
        due("count(5)", more.count(5), 1);
        due("count(3)", more.count(3), 2 * 3 + 21);
        LinkPress most = letters(all + ".", all + ".");
        routineIs(most, 0, 20, 2, 4 * 17);
        routineIs(most, 1, 6, 2, 4 * 3);
        occurs(most, 1, 0, 20, 1, 20);
    }

    private void notAcross() {
        due("across two FUNCTIONS", letters("ab.", "cd.ab.", "cd.").count(5), 0);
        // the last of one and the first of the next are no ROW, though nothing else is between
        due("behind a JUMP", savedBy(join(row("abc"), f(i(JUMP, 0))), join(row("d.abc"), f(i(JUMP, 0))), row("d.")), 0);
        due("not one behind the other", letters("abxcd.abycd.").count(5), 0);
    }

    /** What five save that come twice, of which the second one is told. */
    private int savedWith(int[] sign) {
        int[][] five = join(row("a"), f(sign), row("bcd."));
        return savedBy(five, five);
    }

    private void numbersThatAreFit() {
        sentence("is FIT if all are of 0 to 21, 34,");
        for (int n = ADD; n <= PRINT; n++) {
            boolean fit = n <= SW || n == PRINT;
            due("with " + n, savedWith(i(n, 0, 0, 0)), fit ? 8 : 0);
        }
        // the least and the greatest number at either end of a ROW
        for (int n : new int[] {ADD, SW, PRINT}) {
            int[][] four = join(f(i(n, 6, 6, 6)), row("ab"), f(i(n, 7, 7, 7), i(RET)));
            due("at the ends: " + n, savedBy(four, four), 4);
        }
        for (int n : new int[] {BEQ, ADDR, ICALL}) {
            int[][] row = join(f(i(n)), row("abc"), f(i(n), i(RET)));
            due("at the ends: " + n, savedBy(row, row), 0);
        }
    }

    private void registerOne() {
        sentence("name no register 1,");
        for (int n = ADD; n <= SW; n++) {
            for (int k = 0; k < 3; k++) {
                int[] sign = i(n, 0, 0, 0);
                sign[1 + k] = 1;
                due(n + " with 1 as " + "abc".charAt(k), savedWith(sign), k < registersOf(n) ? 0 : 8);
                sign[1 + k] = 2;
                due(n + " with 2 as " + "abc".charAt(k), savedWith(sign), 8);
            }
        }
        due("PRINT names none", savedWith(i(PRINT, 1, 1, 1)), 8);
    }

    private void inNoRoutineYet() {
        sentence("are in no ROUTINE yet,");
        // ab comes six times, but two of them are in the longer ROW that comes first
        LinkPress x = letters("abcdef.abcdef.ab.ab.ab.ab.");
        routineIs(x, 0, 6, 2, 12);
        routineIs(x, 1, 2, 4, 4);
        occurs(x, 1, 0, 14, 0, 17, 0, 20, 0, 23);
        due("count(5)", x.count(5), 2);
        // with one less of them there is none
        LinkPress y = letters("abcdef.abcdef.ab.ab.ab.");
        routineIs(y, 0, 6, 2, 12);
        due("count(5)", y.count(5), 1);
        // what is on both sides of a ROUTINE is no ROW; what is on one side is
        LinkPress z = letters("pqrsabcdefghtu.", "pqrsabcdefghvw.", "abcdefgh.");
        routineIs(z, 0, 8, 3, 48);
        routineIs(z, 1, 4, 2, 4);
        due("count(5)", z.count(5), 2);
    }

    private void goneTo() {
        sentence("and no BRANCH or JUMP of the BODY goes to one of them but the first.");
        // abcde comes twice; what goes to its second one leaves bcde, to its last one abcd
        int[] saves = {8, 4, 0, 0, 4, 8, 8};
        for (int n = BEQ; n <= JUMP; n++) {
            for (int goal = 0; goal < saves.length; goal++) {
                int[] to = n == JUMP ? i(JUMP, goal) : i(n, 6, 7, goal);
                due(n + " from behind to " + goal, savedBy(row("abcde."), join(row("abcde"), f(to), row("."))),
                    saves[goal]);
                due("in the other BODY", savedBy(join(row("abcde"), f(to), row(".")), row("abcde.")), saves[goal]);
            }
            for (int goal = 1; goal < saves.length; goal++) {
                int[] to = n == JUMP ? i(JUMP, goal) : i(n, 6, 7, goal);
                due(n + " from ahead to " + goal, savedBy(row("abcde."), join(f(to), row("abcde."))),
                    saves[goal - 1]);
            }
        }
    }

    private void goneToFromAnywhere() {
        int[][] five = row("abcde.");
        due("of another BODY", savedBy(five, five, f(i(BEQ, 6, 7, 2), i(RET), i(RET), i(RET))), 8);
        due("from the last place of 40", savedBy(five, join(row("abcde"), times(34, i(RET)), f(i(JUMP, 2)))), 0);
        due("to the last place of 40", savedBy(five, join(f(i(JUMP, 39)), times(33, i(RET)), five)), 8);
        // what goes to the first of the second: the two ROWS are FIT, one across them is not
        LinkPress x = program(join(row("abcabcabc"), f(i(JUMP, 3))));
        x.press(false, true);
        routineIs(x, 0, 3, 3, 8);
        LinkPress y = program(join(row("aaaaaaaa"), f(i(JUMP, 3))));
        y.press(false, true);
        // of 3 and 5 of the same: 2 at 0, 3 and 5 save 0, 3 at 0 and 3 save 0
        due("count(5)", y.count(5), 0);
        // of two FUNCTIONS that become one, what goes into the ROW is there once
        LinkPress z = program(join(row("abcde"), f(i(JUMP, 1))), join(row("abcde"), f(i(JUMP, 1))), row("abcde."));
        due("press(true, true)", z.press(true, true), 6 + 6 - 1);
        routineIs(z, 0, 4, 2, 4);
        occurs(z, 0, 0, 1, 2, 1);
    }

    /** Where an earlier program went to is no matter. */
    private void goneToAnew() {
        LinkPress x = program(join(row("abcde"), f(i(JUMP, 2))), row("abcde."));
        due("press(false, true)", x.press(false, true), 12);
        x.clear();
        for (int f = 0; f < 2; f++) {
            x.function();
            for (int[] sign : row("abcde.")) {
                put(x, f, sign);
            }
        }
        due("press(false, true)", x.press(false, true), 10);
        routineIs(x, 0, 5, 2, 8);
    }

    private void occurrences() {
        sentence("OCCURRENCES of a FIT ROW: from the first BODY and place on, each FIT ROW of the same "
            + "INSTRUCTIONS (a, b, c that are told) that begins behind the end of the one before (or in another BODY).");
        LinkPress x = letters("abcd.xabcd.", "yzabcd.");
        occurs(x, 0, 0, 0, 0, 6, 1, 2);
        // one begins where the one before has its end
        LinkPress next = letters("abcdabcd.");
        occurs(next, 0, 0, 0, 0, 4);
        LinkPress nine = letters("aaaaaaaaa.");
        routineIs(nine, 0, 3, 3, 8);
        occurs(nine, 0, 0, 0, 0, 3, 0, 6);
        LinkPress eleven = letters("aaaaaaaaaaa.");
        routineIs(eleven, 0, 5, 2, 8);
        occurs(eleven, 0, 0, 0, 0, 5);
        due("the eleventh is left", eleven.word(2), 'a' << 20 | 7 << 15 | 6 << 7 | 0x13);
        LinkPress within = letters("ababababc.");
        occurs(within, 0, 0, 0, 0, 4);
        // in another BODY it may begin at a lesser place
        LinkPress bodies = letters("pqrsabcd.", "abcd.");
        occurs(bodies, 0, 0, 4, 1, 0);
        LinkPress same = letters("aaaaa.", "aaaaa.", "aaaa.");
        routineIs(same, 0, 4, 3, 16);
        occurs(same, 0, 0, 0, 1, 0, 2, 0);
    }

    private void occurrencesThatAreFit() {
        // the first of three is gone into, so it is none of them
        LinkPress x = program(join(row("abcde"), f(i(BEQ, 6, 7, 2)), row("abcde.abcde.")));
        x.press(false, true);
        routineIs(x, 0, 5, 2, 8);
        occurs(x, 0, 0, 6, 0, 12);
        // a, b, c that are told part them, others do not
        int[][] told = f(i(LUI, 6, 1, 2), i(PRINT, 3), i(LUI, 7, 4, 5), i(ADD, 8, 7, 6), i(RET));
        int[][] untold = f(i(LUI, 6, 1, 9), i(PRINT, 9), i(LUI, 7, 4, 9), i(ADD, 8, 7, 6), i(RET));
        due("what is not told", savedBy(told, untold), 4);
        for (int n = ADD; n <= SW; n++) {
            for (int k = 0; k < toldBy(n); k++) {
                int[] sign = i(n, 6, 6, 6);
                int[] other = i(n, 6, 6, 6);
                other[1 + k] = 7;
                due("another " + "abc".charAt(k) + " of " + n,
                    savedBy(join(row("abc"), f(sign, i(RET))), join(row("abc"), f(other, i(RET)))), 0);
                due("the same of " + n,
                    savedBy(join(row("abc"), f(other, i(RET))), join(row("abc"), f(other, i(RET)))), 4);
            }
        }
    }

    /** Numbers that are apart by any one bit are not the same, at the first and at the last of a ROW. */
    private void sameInstructions() {
        for (int bit = 0; bit < 20; bit++) {
            arePartedBy(i(LUI, 6, 0), i(LUI, 6, 1 << bit));
        }
        for (int bit = 0; bit < 12; bit++) {
            arePartedBy(i(ADDI, 6, 6, 0), i(ADDI, 6, 6, 1 << bit + 20 >> 20));
        }
        // other numbers, registers of other places
        int[][] others = {i(ADD, 6, 7, 8), i(SUB, 6, 7, 8), i(ADD, 7, 6, 8), i(ADD, 6, 8, 7), i(ADDI, 6, 7, 8),
            i(SLLI, 6, 7, 8), i(LW, 6, 7, 8), i(SW, 6, 7, 8), i(SW, 7, 6, 8), i(LUI, 6, 7, 8), i(PRINT, 6, 7, 8)};
        for (int[] sign : others) {
            for (int[] other : others) {
                due(sign[0] + " and " + other[0], savedBy(join(row("abc"), f(sign, i(RET))),
                    join(row("abc"), f(other, i(RET)))), sign == other ? 4 : 0);
            }
        }
    }

    private void arePartedBy(int[] sign, int[] other) {
        String name = sign[0] + " of " + other[2] + ", " + other[3];
        due("the first: " + name, savedBy(join(f(sign), row("abc.")), join(f(other), row("abc."))), 0);
        due("the last: " + name, savedBy(join(row("abc"), f(sign, i(RET))), join(row("abc"), f(other, i(RET)))), 0);
    }

    /** 19 pairs, each once in a FUNCTION, each time behind another one: 144 OCCURRENCES of 19 ROWS. */
    private void manyOccurrences() {
        int[][][] rows = new int[8][][];
        int[] times = new int[19];
        for (int f = 0; f < 8; f++) {
            rows[f] = new int[0][];
            for (int k = 0; k < (f < 7 ? 19 : 11); k++) {
                int pair = k * (f + 1) % 19;
                times[pair]++;
                rows[f] = join(rows[f], f(i(ADDI, 6, 7, 2 * pair), i(ADDI, 6, 7, 2 * pair + 1)));
            }
            rows[f] = join(rows[f], f(i(RET)));
        }
        LinkPress x = program(rows);
        due("press(false, true)", x.press(false, true), 296 - 11 * 5 - 8 * 4);
        due("count(5)", x.count(5), 19);
        due("count(6)", x.count(6), 11 * 20 + 8 * 16);
        // those of the last FUNCTION come 8 times, so they are first
        int next = 0;
        for (int many = 8; many >= 7; many--) {
            for (int pair = 0; pair < 19; pair++) {
                if (times[pair] == many) {
                    routineIs(x, next, 2, many, 4 * (many - 3));
                    due("its first OCCURRENCE", x.occurrence(next, 0, 1), 2 * pair);
                    due("its last OCCURRENCE", x.occurrence(next, many - 1, 0), many - 1);
                    next++;
                }
            }
        }
        due("the word of the last", x.occurrence(18, 6, 2) < x.routine(0, 3) ? 1 : 0, 1);
    }

    private void saves() {
        sentence("It SAVES 4 * ((k - 1) * length - 1 - k) bytes, k OCCURRENCES.");
        routineIs(letters("abcd.", "abcd."), 0, 4, 2, 4);
        routineIs(letters("abcde.", "abcde."), 0, 5, 2, 8);
        routineIs(letters("abc.", "abc.", "abc."), 0, 3, 3, 8);
        routineIs(letters("abcd.", "abcd.", "abcd."), 0, 4, 3, 16);
        routineIs(letters("ab.ab.ab.ab.ab."), 0, 2, 5, 8);
        // as many bytes as the image is shorter by
        LinkPress x = letters("abcdef.abcdef.ab.ab.ab.ab.");
        due("count(6)", x.count(6), 16);
        due("press(false, false)", x.press(false, false), 26);
        due("press(false, true)", x.press(false, true), 22);
        // 20 of them, 14 times: all that 300 instructions can hold of the longest
        String[] rows = new String[14];
        Arrays.fill(rows, "abcdefghijklmnopqrst.");
        LinkPress most = letters(rows);
        routineIs(most, 0, 20, 14, 4 * (13 * 20 - 15));
        due("count(3)", most.count(3), 28 + 21);
    }

    private void theMost() {
        sentence("Again and again the ROW that SAVES most");
        // 4 of them twice save 4, their first 3 four times save 16
        LinkPress x = letters("abcd.abcd.abce.abcf.");
        routineIs(x, 0, 3, 4, 16);
        due("count(5)", x.count(5), 1);
        // the later one saves more
        LinkPress y = letters("abcd.abcd.vwxyz.vwxyz.");
        routineIs(y, 0, 5, 2, 8);
        occurs(y, 0, 0, 10, 0, 16);
        routineIs(y, 1, 4, 2, 4);
        occurs(y, 1, 0, 0, 0, 5);
        // the shorter one saves more: 3 of 4 save 16, 6 of 2 save 12
        LinkPress z = letters("abcdef.abcdef.tuv.tuv.tuv.tuv.");
        routineIs(z, 0, 3, 4, 16);
        routineIs(z, 1, 6, 2, 12);
        due("count(6)", z.count(6), 28);
    }

    private void theLongest() {
        sentence("of several the longest;");
        // 2 of 4 and 4 of 2 save 4: the longest, though it comes later
        LinkPress x = letters("xy.xy.xy.xy.abcd.abcd.");
        routineIs(x, 0, 4, 2, 4);
        routineIs(x, 1, 2, 4, 4);
        due("count(6)", x.count(6), 8);
        // 5 of 2, 3 of 3 and 2 of 5 all save 8
        LinkPress y = letters("xy.xy.xy.xy.xy.", "pqr.pqr.pqr.", "abcde.abcde.");
        routineIs(y, 0, 5, 2, 8);
        routineIs(y, 1, 3, 3, 8);
        routineIs(y, 2, 2, 5, 8);
        due("count(5)", y.count(5), 3);
    }

    private void theFirst() {
        sentence("of several the one whose first OCCURRENCE is first) becomes the next ROUTINE, by all its OCCURRENCES,");
        LinkPress x = letters("abcd.wxyz.", "wxyz.abcd.");
        occurs(x, 0, 0, 0, 1, 5);
        occurs(x, 1, 0, 5, 1, 0);
        // in a later place of an earlier BODY
        LinkPress y = letters("x.x.x.abcd.", "pqrs.pqrs.abcd.");
        occurs(y, 0, 0, 6, 1, 10);
        occurs(y, 1, 1, 0, 1, 5);
        // 20 of 21 at the longest: the first 20
        LinkPress z = letters("abcdefghijklmnopqrstu.", "abcdefghijklmnopqrstu.");
        occurs(z, 0, 0, 0, 1, 0);
        due("the last is left", z.word(1), 'u' << 20 | 7 << 15 | 6 << 7 | 0x13);
    }

    /** 300 INSTRUCTIONS: 19 of 15 save as much as 13 of 22, and leave one in each of seven BODIES. */
    private void fullProgram() {
        String[] rows = new String[8];
        Arrays.fill(rows, "a".repeat(39) + ".");
        rows[7] = "a".repeat(19) + ".";
        LinkPress x = letters(rows);
        due("count(1)", x.count(1), 300);
        due("count(3)", x.count(3), 7 * 4 + 2 + 20);
        due("count(5)", x.count(5), 1);
        routineIs(x, 0, 19, 15, 1000);
        occurs(x, 0, 0, 0, 0, 19, 1, 0, 1, 19, 2, 0, 2, 19, 3, 0, 3, 19, 4, 0, 4, 19, 5, 0, 5, 19, 6, 0, 6, 19, 7, 0);
        due("the word of the last", x.occurrence(0, 14, 2), 4096 + 4 * 28);
    }

    private void moreThanZero() {
        sentence("as long as it SAVES more than 0;");
        due("3 of 2 save 0", letters("abc.abc.").count(5), 0);
        due("2 of 3 save 0", letters("ab.ab.ab.").count(5), 0);
        due("2 of 2 save less than 0", letters("ab.ab.").count(5), 0);
        due("4 of 1 save less than 0", letters("abcd.").count(5), 0);
        routineIs(letters("abcd.abcd."), 0, 4, 2, 4);
        LinkPress x = letters("abcd.abcd.xyz.xyz.pq.pq.pq.");
        due("count(5)", x.count(5), 1);
        due("count(6)", x.count(6), 4);
        due("routine(1, 0)", x.routine(1, 0), NONE);
    }

    /** A routine takes 8 instructions at the least, so that 300 never come to 60: 36 are the most. */
    private void manyRoutines() {
        sentence("60 at most.");
        int[][][] rows = new int[8][][];
        for (int f = 0; f < 8; f++) {
            rows[f] = new int[0][];
            for (int k = 0; k < 9; k++) {
                // in the last four functions they come backwards, so that no longer row comes twice
                int phrase = f < 4 ? 9 * f + k : 9 * (7 - f) + 8 - k;
                int at = 4 * phrase;
                rows[f] = join(rows[f], f(i(ADDI, 6, 7, at), i(ADDI, 6, 7, at + 1), i(ADDI, 6, 7, at + 2),
                    i(ADDI, 6, 7, at + 3)));
            }
            rows[f] = join(rows[f], f(i(RET)));
        }
        LinkPress x = program(rows);
        due("press(false, false)", x.press(false, false), 296);
        due("press(false, true)", x.press(false, true), 296 - 36);
        due("count(5)", x.count(5), 36);
        due("count(6)", x.count(6), 4 * 36);
        for (int k = 0; k < 36; k += 5) {
            routineIs(x, k, 4, 2, 4);
            occurs(x, k, k / 9, 4 * (k % 9), 7 - k / 9, 4 * (8 - k % 9));
        }
        due("routine(36, 0)", x.routine(36, 0), NONE);
    }
}
