import java.util.Arrays;

/** The words of V, against those that GNU as gives for RV32I (ADDR: reckoned by hand). */
final class WordsPart extends Part {
    /** Number, a, b, c, word. */
    private static final int[][] PLAIN = {
        {0, 31, 30, 29, 31395763},
        {0, 0, 1, 2, 2129971},
        {0, 10, 31, 7, 8357171},
        {1, 31, 30, 29, 1105137587},
        {1, 0, 1, 2, 1075871795},
        {1, 10, 31, 7, 1082098995},
        {2, 31, 30, 29, 31424435},
        {2, 0, 1, 2, 2158643},
        {2, 10, 31, 7, 8385843},
        {3, 31, 30, 29, 31420339},
        {3, 0, 1, 2, 2154547},
        {3, 10, 31, 7, 8381747},
        {4, 31, 30, 29, 31412147},
        {4, 0, 1, 2, 2146355},
        {4, 10, 31, 7, 8373555},
        {5, 31, 30, 29, 31399859},
        {5, 0, 1, 2, 2134067},
        {5, 10, 31, 7, 8361267},
        {6, 31, 30, 29, 31416243},
        {6, 0, 1, 2, 2150451},
        {6, 10, 31, 7, 8377651},
        {7, 31, 30, 29, 1105158067},
        {7, 0, 1, 2, 1075892275},
        {7, 10, 31, 7, 1082119475},
        {8, 31, 30, 29, 31403955},
        {8, 0, 1, 2, 2138163},
        {8, 10, 31, 7, 8365363},
        {9, 31, 30, 29, 31408051},
        {9, 0, 1, 2, 2142259},
        {9, 10, 31, 7, 8369459},
        {10, 31, 30, -2048, -2146496621},
        {10, 1, 0, 2047, 2146435219},
        {10, 10, 17, -1, -490221},
        {10, 6, 7, 0, 230163},
        {11, 31, 30, -2048, -2146467949},
        {11, 1, 0, 2047, 2146463891},
        {11, 10, 17, -1, -461549},
        {11, 6, 7, 0, 258835},
        {12, 31, 30, -2048, -2146472045},
        {12, 1, 0, 2047, 2146459795},
        {12, 10, 17, -1, -465645},
        {12, 6, 7, 0, 254739},
        {13, 31, 30, -2048, -2146480237},
        {13, 1, 0, 2047, 2146451603},
        {13, 10, 17, -1, -473837},
        {13, 6, 7, 0, 246547},
        {14, 31, 30, -2048, -2146488429},
        {14, 1, 0, 2047, 2146443411},
        {14, 10, 17, -1, -482029},
        {14, 6, 7, 0, 238355},
        {15, 31, 30, -2048, -2146484333},
        {15, 1, 0, 2047, 2146447507},
        {15, 10, 17, -1, -477933},
        {15, 6, 7, 0, 242451},
        {16, 31, 30, 31, 33496979},
        {16, 1, 2, 0, 69779},
        {16, 10, 17, 16, 17339667},
        {17, 31, 30, 31, 33513363},
        {17, 1, 2, 0, 86163},
        {17, 10, 17, 16, 17356051},
        {18, 31, 30, 31, 1107255187},
        {18, 1, 2, 0, 1073827987},
        {18, 10, 17, 16, 1091097875},
        {19, 31, 1048575, 0, -73},
        {19, 1, 0, 0, 183},
        {19, 7, 524288, 0, -2147482697},
        {20, 31, 30, -2048, -2146488445},
        {20, 1, 0, 2047, 2146443395},
        {20, 10, 17, -4, -3627773},
        {20, 6, 7, 32, 33792771},
        {21, 31, 30, -2048, -2113986525},
        {21, 1, 0, 2047, 2114989987},
        {21, 10, 17, -4, -22499805},
        {21, 6, 7, 32, 40083491}};

    /** A function of 40 and one of 4: branches and jumps as far as they go, there and back. */
    private static final int[][] GOING = {
        {22, 31, 30, 39, 166694499}, {23, 1, 2, 39, 136354915}, {24, 6, 7, 39, 141773411},
        {25, 10, 0, 39, 134568035}, {26, 0, 31, 39, 166749795}, {27, 17, 16, 39, 151581795},
        {22, 6, 7, 6, 7536739}, {28, 39, 0, 0, 134217839}, {29, 1, 0, 0, 134217967},
        {33, 31, 0, 0, 1016039}, {34, 0, 0, 0, 115}, {31, 0, 0, 0, 32871}};
    private static final int[][] COMING_BACK = {
        {22, 31, 30, 0, -135295261}, {23, 1, 2, 0, -165634845}, {24, 6, 7, 0, -160216349},
        {25, 10, 0, 0, -167421725}, {26, 0, 31, 0, -135239965}, {27, 17, 16, 0, -150407965},
        {28, 0, 0, 0, -161484689}};
    private static final int[][] SECOND = {
        {29, 0, 0, 0, -165678865}, {29, 1, 0, 0, -2101009}, {30, 1, 0, 0, -6295441},
        {30, 0, 0, 0, -178261905}};

    WordsPart(Checks checks) {
        super(checks);
    }

    void check() {
        plainWords();
        goingWords();
        farJumps();
        addressWords();
    }

    private void plainWords() {
        sentence("RV32I's own words for 0 to 27;");
        for (int[] row : PLAIN) {
            LinkPress x = program(f(row, i(RET)));
            due("press", x.press(false, true), 2);
            due("word of " + row[0] + ", " + row[1] + ", " + row[2] + ", " + row[3], x.word(0), row[4]);
            due("word behind", x.word(1), 0x8067);
        }
        branchesAndJumps(BEQ, BGEU);
    }

    private void goingWords() {
        sentence("JUMP: jal x0; CALL: jal x1; TAIL: jal x0; RET: jalr x0, 0(x1); ICALL: jalr x1, 0(a); PRINT: ecall;");
        branchesAndJumps(JUMP, PRINT);
        for (int a : new int[] {0, 1, 2, 31}) {
            LinkPress x = program(f(i(ICALL, a), i(RET)));
            due("press", x.press(true, true), 2);
            due("jalr x1, 0(x" + a + ")", x.word(0), a << 15 | 1 << 7 | 0x67);
        }
    }

    /** Over 511, 512 and 513 words, there and back: beyond 511 another bit of the word is needed. */
    private void farJumps() {
        int[][] far = {{511, 0x7FC000EF, 0x805FF06F}, {512, 0x001000EF, 0x801FF06F}, {513, 0x005000EF, 0xFFCFF06F}};
        for (int[] way : far) {
            int[][][] rows = behind(way[0]);
            rows[0] = join(f(i(CALL, 14)), times(18, i(ADDR, 7, 0)), f(i(PRINT), i(RET)));
            rows[14] = f(i(TAIL, 0));
            LinkPress x = program(rows);
            due("press", x.press(false, true), way[0] + 1);
            due("jal x1 over " + way[0] + " words", x.word(0), way[1]);
            due("jal x0 back over " + way[0] + " words", x.word(way[0]), way[2]);
            due("run(1, 1)", x.run(1, 1), FUEL);
            due("there", x.ran(1, 3), 4096 + 4 * way[0]);
            due("run(1, 2)", x.run(1, 2), FUEL);
            due("and back", x.ran(1, 3), 4096);
        }
    }

    /** FUNCTION 14 lies so many words behind 4096: 13 of 39 words are ahead, and a rest. */
    private static int[][][] behind(int words) {
        int[][][] rows = new int[15][][];
        Arrays.fill(rows, join(times(19, i(ADDR, 7, 0)), f(i(RET))));
        rows[13] = join(times(words - 13 * 39 - 1, i(PRINT)), f(i(RET)));
        rows[14] = f(i(RET));
        return rows;
    }

    /** Of one program with all that goes anywhere, the words of these numbers. */
    private void branchesAndJumps(int least, int most) {
        LinkPress x = program(join(GOING, times(21, i(PRINT)), COMING_BACK), SECOND);
        due("press", x.press(true, false), 44);
        int[][] all = join(GOING, new int[21][5], COMING_BACK, SECOND);
        for (int k = 0; k < all.length; k++) {
            if (all[k][4] != 0 && all[k][0] >= least && all[k][0] <= most) {
                due("word(" + k + ")", x.word(k), all[k][4]);
            }
        }
    }

    /** The lowest 12 bits just below 2048, at it and above; and a register that is not written. */
    private void addressWords() {
        sentence("ADDR: lui a, then addi a, a by the lowest 12 bits "
            + "(with sign; the upper ones are 1 more where these are below 0).");
        addressBehind(511, 1, 2044);
        addressBehind(512, 2, -2048);
        addressBehind(513, 2, -2044);
    }

    private void addressBehind(int words, int upper, int low) {
        int[][][] rows = behind(words);
        rows[0] = join(times(19, i(ADDR, 7, 14)), f(i(RET)));
        rows[1] = join(times(19, i(ADDR, 0, 14)), f(i(RET)));
        LinkPress x = program(rows);
        due("press", x.press(false, false), words + 1);
        due("body(14, 1)", x.body(14, 1), 4096 + 4 * words);
        due("lui x7", x.word(0), upper << 12 | 7 << 7 | 0x37);
        due("addi x7", x.word(1), low << 20 | 7 << 15 | 7 << 7 | 0x13);
        due("lui x0", x.word(39), upper << 12 | 0x37);
        due("addi x0", x.word(40), low << 20 | 0x13);
        due("lui x7 of 4096", x.word(78), 1 << 12 | 7 << 7 | 0x37);
        due("addi x7 of 4096", x.word(79), 7 << 15 | 7 << 7 | 0x13);
        due("run(1, 2)", x.run(1, 2), 1);
        due("register(1, 7)", x.register(1, 7), 4096 + 4 * words);
    }
}
