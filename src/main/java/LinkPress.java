import java.util.Arrays;

/**
 * A press for programs of many functions: it folds functions that are the same, takes rows of
 * instructions that come again out into routines, links all of it to RV32I words, and runs both
 * the program as told and the image.
 */
public final class LinkPress {
    public static final int NONE = -1;

    private final Program program;
    private final Folding folding;
    private final Image image;
    private final Routines routineList;
    private final RoutineSearch search;
    private final Linker linker;
    private final ToldMachine toldMachine;
    private final ImageMachine imageMachine;

    public LinkPress() {
        program = new Program();
        folding = new Folding(program);
        image = new Image();
        routineList = new Routines();
        search = new RoutineSearch(program, image, routineList);
        linker = new Linker(program, image, routineList);
        toldMachine = new ToldMachine(program);
        imageMachine = new ImageMachine(image);
    }

    public int function() {
        return program.addFunction();
    }

    public int put(int function, int number, int a, int b, int c) {
        return program.addInstruction(function, number, a, b, c);
    }

    public int clear() {
        image.drop();
        routineList.drop();
        return program.drop();
    }

    public int press(boolean folds, boolean routines) {
        int refusal = program.refusal();
        if (refusal != Program.NOT_REFUSED) {
            return -refusal;
        }
        folding.refresh();
        image.begin(program.functions());
        for (int f = 0; f < program.functions(); f++) {
            image.setBody(f, folds ? folding.bodyOf(f) : f);
        }
        routineList.drop();
        if (routines) {
            search.findAll();
        }
        linker.link();
        return image.size();
    }

    public int about(int function, int what) {
        if (!program.hasFunction(function)) {
            return NONE;
        }
        switch (what) {
            case 0:
                return program.lengthOf(function);
            case 1:
                folding.refresh();
                return folding.isTaken(function) ? 1 : 0;
            case 2:
                folding.refresh();
                return folding.leastOf(function);
            default:
                return NONE;
        }
    }

    public int body(int function, int what) {
        int body = image.bodyOf(function);
        switch (what) {
            case 0:
                return body;
            case 1:
                return image.addressOf(body);
            default:
                return NONE;
        }
    }

    public int routine(int k, int what) {
        if (!routineList.has(k)) {
            return NONE;
        }
        switch (what) {
            case 0:
                return routineList.lengthOf(k);
            case 1:
                return routineList.timesOf(k);
            case 2:
                return routineList.savesOf(k);
            case 3:
                return routineList.addressOf(k);
            default:
                return NONE;
        }
    }

    public int occurrence(int k, int i, int what) {
        int at = routineList.indexOf(k, i);
        if (at == NONE) {
            return NONE;
        }
        switch (what) {
            case 0:
                return routineList.bodyAt(at);
            case 1:
                return routineList.placeAt(at);
            case 2:
                return routineList.wordAddressAt(at);
            default:
                return NONE;
        }
    }

    public int word(int i) {
        return image.wordAt(i);
    }

    public int run(int which, int fuel) {
        Machine machine = machineOf(which);
        if (machine == null || fuel < 1 || fuel > Machine.MOST_FUEL || !machine.isReady()) {
            return NONE;
        }
        return machine.drive(fuel);
    }

    public int ran(int which, int what) {
        Machine machine = machineOf(which);
        if (machine == null || !machine.hasRun()) {
            return NONE;
        }
        switch (what) {
            case 0:
                return machine.outcome();
            case 1:
                return machine.steps();
            case 2:
                return machine.prints();
            case 3:
                return machine.where();
            case 4:
                return machine.whichPlace();
            default:
                return NONE;
        }
    }

    public int printed(int which, int i) {
        Machine machine = machineOf(which);
        return machine == null ? 0 : machine.printAt(i);
    }

    public int register(int which, int k) {
        Machine machine = machineOf(which);
        return machine == null ? 0 : machine.registerAt(k);
    }

    public int memory(int which, int k) {
        Machine machine = machineOf(which);
        return machine == null ? 0 : machine.memoryAt(k);
    }

    public int count(int what) {
        switch (what) {
            case 0:
                return program.functions();
            case 1:
                return program.size();
            case 2:
                folding.refresh();
                return folding.classes();
            case 3:
                return image.size();
            case 4:
                return image.bodies();
            case 5:
                return routineList.size();
            case 6:
                return routineList.savesInAll();
            default:
                return NONE;
        }
    }

    private Machine machineOf(int which) {
        switch (which) {
            case 0:
                return toldMachine;
            case 1:
                return imageMachine;
            default:
                return null;
        }
    }

    /** The instructions by their numbers, and what each of them tells. */
    private static final class Signs {
        static final int HOW_MANY = 35;
        static final int ADDI = 10;
        static final int SRAI = 18;
        static final int LUI = 19;
        static final int LW = 20;
        static final int SW = 21;
        static final int BEQ = 22;
        static final int BNE = 23;
        static final int BGEU = 27;
        static final int JUMP = 28;
        static final int CALL = 29;
        static final int TAIL = 30;
        static final int RET = 31;
        static final int ADDR = 32;
        static final int ICALL = 33;
        static final int PRINT = 34;

        static final int REGISTERS = 32;
        static final int RETURN_REGISTER = 1;
        static final int LINK_REGISTER = 5;
        static final int PRINT_REGISTER = 10;

        private static final int FREE = 0;
        private static final int REG = 1;
        private static final int LOW = 2;
        private static final int SHIFT = 3;
        private static final int HIGH = 4;
        private static final int PLACE = 5;
        private static final int FUNC = 6;

        private static final int[] KIND_OF_A = {
            REG, REG, REG, REG, REG, REG, REG, REG, REG, REG,
            REG, REG, REG, REG, REG, REG, REG, REG, REG, REG,
            REG, REG, REG, REG, REG, REG, REG, REG,
            PLACE, FUNC, FUNC, FREE, REG, REG, FREE};

        private static final int[] KIND_OF_B = {
            REG, REG, REG, REG, REG, REG, REG, REG, REG, REG,
            REG, REG, REG, REG, REG, REG, REG, REG, REG, HIGH,
            REG, REG, REG, REG, REG, REG, REG, REG,
            FREE, FREE, FREE, FREE, FUNC, FREE, FREE};

        private static final int[] KIND_OF_C = {
            REG, REG, REG, REG, REG, REG, REG, REG, REG, REG,
            LOW, LOW, LOW, LOW, LOW, LOW, SHIFT, SHIFT, SHIFT, FREE,
            LOW, LOW, PLACE, PLACE, PLACE, PLACE, PLACE, PLACE,
            FREE, FREE, FREE, FREE, FREE, FREE, FREE};

        static boolean isNumber(int number) {
            return number >= 0 && number < HOW_MANY;
        }

        static int kindOfA(int number) {
            return isNumber(number) ? KIND_OF_A[number] : FREE;
        }

        static int kindOfB(int number) {
            return isNumber(number) ? KIND_OF_B[number] : FREE;
        }

        static int kindOfC(int number) {
            return isNumber(number) ? KIND_OF_C[number] : FREE;
        }

        static boolean suits(int kind, int value) {
            switch (kind) {
                case REG:
                    return value >= 0 && value < REGISTERS && value != LINK_REGISTER;
                case LOW:
                    return value >= -2048 && value <= 2047;
                case SHIFT:
                    return value >= 0 && value <= 31;
                case HIGH:
                    return value >= 0 && value <= 1048575;
                case PLACE:
                    return value >= 0 && value < Program.MOST_PLACES;
                case FUNC:
                    return value >= 0 && value < Program.MOST_FUNCTIONS;
                default:
                    return true;
            }
        }

        /** What is not told is kept as 0, so that it never tells two instructions apart. */
        static int kept(int kind, int value) {
            return kind == FREE ? 0 : value;
        }

        static boolean isReturnRegister(int kind, int value) {
            return kind == REG && value == RETURN_REGISTER;
        }

        static boolean isBranch(int number) {
            return number >= BEQ && number <= BGEU;
        }

        static boolean isCallOrTail(int number) {
            return number == CALL || number == TAIL;
        }

        static boolean isClosing(int number) {
            return number == JUMP || number == TAIL || number == RET;
        }

        static boolean mayBeInRow(int number) {
            return number >= 0 && number <= SW || number == PRINT;
        }
    }

    /** RV32I: the forms of its words, and what its arithmetic and its branches mean. */
    private static final class Rv32 {
        static final int CODE_LOAD = 0x03;
        static final int CODE_IMMEDIATE = 0x13;
        static final int CODE_STORE = 0x23;
        static final int CODE_REGISTERS = 0x33;
        static final int CODE_UPPER = 0x37;
        static final int CODE_BRANCH = 0x63;
        static final int CODE_JUMP_REGISTER = 0x67;
        static final int CODE_JUMP = 0x6F;
        static final int CODE_SYSTEM = 0x73;

        static final int WIDE = 2;
        private static final int OTHER_BIT = 0x40000000;
        private static final int SIGN_BIT = 0x80000000;

        private static final int[] SELECTOR = {
            0, 0, 7, 6, 4, 1, 5, 5, 2, 3,
            0, 7, 6, 4, 2, 3, 1, 5, 5, 0,
            2, 2, 0, 1, 4, 5, 6, 7};

        /** SUB, SRA and SRAI share a selector with ADD, SRL and SRLI. */
        private static final int[] OTHER = {
            0, 1, 0, 0, 0, 0, 0, 1, 0, 0,
            0, 0, 0, 0, 0, 0, 0, 0, 1, 0,
            0, 0, 0, 0, 0, 0, 0, 0};

        static int selectorOf(int number) {
            return number >= 0 && number < SELECTOR.length ? SELECTOR[number] : 0;
        }

        static boolean isOther(int number) {
            return number >= 0 && number < OTHER.length && OTHER[number] == 1;
        }

        static int calculate(int selector, boolean other, int x, int y) {
            switch (selector) {
                case 0:
                    return other ? x - y : x + y;
                case 1:
                    return x << (y & 31);
                case 2:
                    return x < y ? 1 : 0;
                case 3:
                    return isBelow(x, y) ? 1 : 0;
                case 4:
                    return x ^ y;
                case 5:
                    return other ? x >> (y & 31) : x >>> (y & 31);
                case 6:
                    return x | y;
                default:
                    return x & y;
            }
        }

        static boolean branches(int selector, int x, int y) {
            switch (selector) {
                case 0:
                    return x == y;
                case 1:
                    return x != y;
                case 4:
                    return x < y;
                case 5:
                    return x >= y;
                case 6:
                    return isBelow(x, y);
                default:
                    return !isBelow(x, y);
            }
        }

        private static boolean isBelow(int x, int y) {
            return (x ^ SIGN_BIT) < (y ^ SIGN_BIT);
        }

        static int registersWord(int number, int a, int b, int c) {
            int other = isOther(number) ? OTHER_BIT : 0;
            return other | c << 20 | b << 15 | selectorOf(number) << 12 | a << 7 | CODE_REGISTERS;
        }

        static int immediateWord(int number, int a, int b, int c) {
            int other = isOther(number) ? OTHER_BIT : 0;
            return other | c << 20 | b << 15 | selectorOf(number) << 12 | a << 7 | CODE_IMMEDIATE;
        }

        static int upperWord(int a, int upper) {
            return upper << 12 | a << 7 | CODE_UPPER;
        }

        static int loadWord(int a, int b, int c) {
            return c << 20 | b << 15 | WIDE << 12 | a << 7 | CODE_LOAD;
        }

        static int storeWord(int a, int b, int c) {
            return c >> 5 << 25 | a << 20 | b << 15 | WIDE << 12 | (c & 31) << 7 | CODE_STORE;
        }

        static int branchWord(int number, int a, int b, int offset) {
            int upper = (offset >> 12 & 1) << 31 | (offset >> 5 & 63) << 25;
            int lower = (offset >> 1 & 15) << 8 | (offset >> 11 & 1) << 7;
            return upper | b << 20 | a << 15 | selectorOf(number) << 12 | lower | CODE_BRANCH;
        }

        static int jumpWord(int link, int offset) {
            int upper = (offset >> 20 & 1) << 31 | (offset >> 1 & 1023) << 21;
            int lower = (offset >> 11 & 1) << 20 | (offset >> 12 & 255) << 12;
            return upper | lower | link << 7 | CODE_JUMP;
        }

        static int jumpRegisterWord(int link, int target) {
            return target << 15 | link << 7 | CODE_JUMP_REGISTER;
        }

        static int codeOf(int word) {
            return word & 127;
        }

        static int targetOf(int word) {
            return word >> 7 & 31;
        }

        static int firstOf(int word) {
            return word >> 15 & 31;
        }

        static int secondOf(int word) {
            return word >> 20 & 31;
        }

        static int selectorIn(int word) {
            return word >> 12 & 7;
        }

        static boolean isOtherIn(int word) {
            return (word & OTHER_BIT) != 0;
        }

        static int immediateOf(int word) {
            return word >> 20;
        }

        static int storeOffsetOf(int word) {
            return word >> 25 << 5 | word >> 7 & 31;
        }

        static int branchOffsetOf(int word) {
            return word >> 31 << 12 | (word >> 7 & 1) << 11 | (word >> 25 & 63) << 5
                | (word >> 8 & 15) << 1;
        }

        static int jumpOffsetOf(int word) {
            return word >> 31 << 20 | word & 0xFF000 | (word >> 20 & 1) << 11
                | (word >> 21 & 1023) << 1;
        }
    }

    /**
     * The functions as told. All instructions lie in one row, function behind function, so that a
     * SPOT (an index into the row) is in the order of functions and places.
     */
    private static final class Program {
        static final int MOST_FUNCTIONS = 24;
        static final int MOST_PLACES = 40;
        static final int MOST_SPOTS = 300;
        static final int NOT_REFUSED = 0;

        private final int[] numbers = new int[MOST_SPOTS];
        private final int[] as = new int[MOST_SPOTS];
        private final int[] bs = new int[MOST_SPOTS];
        private final int[] cs = new int[MOST_SPOTS];
        private final int[] starts = new int[MOST_FUNCTIONS + 1];
        private int functions;
        private int size;
        private int changes;

        int functions() {
            return functions;
        }

        int size() {
            return size;
        }

        /** Another number after each change, for those that keep what they found out. */
        int changes() {
            return changes;
        }

        boolean hasFunction(int f) {
            return f >= 0 && f < functions;
        }

        boolean hasSpot(int spot) {
            return spot >= 0 && spot < size;
        }

        int startOf(int f) {
            return hasFunction(f) ? starts[f] : 0;
        }

        int lengthOf(int f) {
            return hasFunction(f) ? starts[f + 1] - starts[f] : 0;
        }

        int endOf(int f) {
            return hasFunction(f) ? starts[f + 1] : 0;
        }

        int spotOf(int f, int place) {
            if (f < 0 || f >= functions || place < 0) {
                return NONE;
            }
            int spot = starts[f] + place;
            return spot < starts[f + 1] ? spot : NONE;
        }

        int functionAt(int spot) {
            for (int f = 0; f < functions; f++) {
                if (spot >= starts[f] && spot < starts[f + 1]) {
                    return f;
                }
            }
            return NONE;
        }

        int numberAt(int spot) {
            return hasSpot(spot) ? numbers[spot] : NONE;
        }

        int aAt(int spot) {
            return hasSpot(spot) ? as[spot] : 0;
        }

        int bAt(int spot) {
            return hasSpot(spot) ? bs[spot] : 0;
        }

        int cAt(int spot) {
            return hasSpot(spot) ? cs[spot] : 0;
        }

        /** The place that a BRANCH or JUMP goes to; NONE of others. */
        int placeTold(int spot) {
            int number = numberAt(spot);
            if (Signs.isBranch(number)) {
                return cAt(spot);
            }
            return number == Signs.JUMP ? aAt(spot) : NONE;
        }

        /** The function that a CALL, TAIL or ADDR tells; NONE of others. */
        int functionTold(int spot) {
            int number = numberAt(spot);
            if (Signs.isCallOrTail(number)) {
                return aAt(spot);
            }
            return number == Signs.ADDR ? bAt(spot) : NONE;
        }

        boolean isSame(int spot, int other) {
            return hasSpot(spot) && hasSpot(other) && numbers[spot] == numbers[other]
                && as[spot] == as[other] && bs[spot] == bs[other] && cs[spot] == cs[other];
        }

        /** Below 256; the same for the same instructions, and seldom the same for others. */
        int mixAt(int spot) {
            if (!hasSpot(spot)) {
                return 0;
            }
            return numbers[spot] * 7 + as[spot] * 13 + bs[spot] * 31 + cs[spot] * 67 & 255;
        }

        boolean namesReturnRegister(int spot) {
            int number = numberAt(spot);
            return Signs.isReturnRegister(Signs.kindOfA(number), aAt(spot))
                || Signs.isReturnRegister(Signs.kindOfB(number), bAt(spot))
                || Signs.isReturnRegister(Signs.kindOfC(number), cAt(spot));
        }

        int addFunction() {
            if (functions >= MOST_FUNCTIONS) {
                return NONE;
            }
            starts[functions + 1] = starts[functions];
            functions++;
            changes++;
            return functions - 1;
        }

        int addInstruction(int f, int number, int a, int b, int c) {
            int kindOfA = Signs.kindOfA(number);
            int kindOfB = Signs.kindOfB(number);
            int kindOfC = Signs.kindOfC(number);
            if (!Signs.isNumber(number) || !Signs.suits(kindOfA, a) || !Signs.suits(kindOfB, b)
                || !Signs.suits(kindOfC, c) || !hasRoomFor(f)) {
                return NONE;
            }
            int spot = endOf(f);
            makeRoomAt(spot);
            numbers[spot] = number;
            as[spot] = Signs.kept(kindOfA, a);
            bs[spot] = Signs.kept(kindOfB, b);
            cs[spot] = Signs.kept(kindOfC, c);
            for (int g = f + 1; g <= functions; g++) {
                starts[g]++;
            }
            size++;
            changes++;
            return spot - starts[f];
        }

        private boolean hasRoomFor(int f) {
            return hasFunction(f) && lengthOf(f) < MOST_PLACES && size < MOST_SPOTS;
        }

        private void makeRoomAt(int spot) {
            int behind = size - spot;
            if (behind > 0) {
                System.arraycopy(numbers, spot, numbers, spot + 1, behind);
                System.arraycopy(as, spot, as, spot + 1, behind);
                System.arraycopy(bs, spot, bs, spot + 1, behind);
                System.arraycopy(cs, spot, cs, spot + 1, behind);
            }
        }

        int drop() {
            int before = functions;
            functions = 0;
            size = 0;
            changes++;
            return before;
        }

        /** The least reason to press nothing. */
        int refusal() {
            if (functions == 0) {
                return 1;
            }
            if (hasOpenEnd()) {
                return 2;
            }
            if (goesToNoPlace()) {
                return 3;
            }
            return tellsNoFunction() ? 4 : NOT_REFUSED;
        }

        private boolean hasOpenEnd() {
            for (int f = 0; f < functions; f++) {
                if (lengthOf(f) == 0 || !Signs.isClosing(numberAt(endOf(f) - 1))) {
                    return true;
                }
            }
            return false;
        }

        private boolean goesToNoPlace() {
            for (int f = 0; f < functions; f++) {
                for (int spot = startOf(f); spot < endOf(f); spot++) {
                    if (placeTold(spot) >= lengthOf(f)) {
                        return true;
                    }
                }
            }
            return false;
        }

        private boolean tellsNoFunction() {
            for (int spot = 0; spot < size; spot++) {
                if (functionTold(spot) >= functions) {
                    return true;
                }
            }
            return false;
        }
    }

    /** Which functions are taken, and which stand together in the coarsest congruence. */
    private static final class Folding {
        private final Program program;
        private final boolean[] taken = new boolean[Program.MOST_FUNCTIONS];
        private final int[] least = new int[Program.MOST_FUNCTIONS];
        private final int[] finer = new int[Program.MOST_FUNCTIONS];
        private int classes;
        private int seenChanges = NONE;

        Folding(Program program) {
            this.program = program;
        }

        void refresh() {
            if (seenChanges == program.changes()) {
                return;
            }
            seenChanges = program.changes();
            markTaken();
            standAllTogether();
            boolean parted = true;
            for (int round = 0; parted && round <= Program.MOST_FUNCTIONS; round++) {
                int before = classes;
                partOnce();
                parted = classes != before;
            }
        }

        boolean isTaken(int f) {
            return program.hasFunction(f) && taken[f];
        }

        int leastOf(int f) {
            return program.hasFunction(f) ? least[f] : NONE;
        }

        int classes() {
            return classes;
        }

        int bodyOf(int f) {
            if (isTaken(f)) {
                return f;
            }
            for (int g = 0; g < program.functions(); g++) {
                if (isTaken(g) && leastOf(g) == leastOf(f)) {
                    return g;
                }
            }
            return leastOf(f);
        }

        private void markTaken() {
            for (int f = 0; f < taken.length; f++) {
                taken[f] = false;
            }
            for (int spot = 0; spot < program.size(); spot++) {
                if (program.numberAt(spot) == Signs.ADDR) {
                    int f = program.bAt(spot);
                    if (f >= 0 && f < taken.length) {
                        taken[f] = true;
                    }
                }
            }
        }

        private void standAllTogether() {
            Arrays.fill(least, 0);
            classes = 0;
        }

        /** Makes at least one class more, unless the classes are a congruence already. */
        private void partOnce() {
            classes = 0;
            for (int f = 0; f < program.functions(); f++) {
                finer[f] = finerLeastOf(f);
                if (finer[f] == f) {
                    classes++;
                }
            }
            System.arraycopy(finer, 0, least, 0, program.functions());
        }

        private int finerLeastOf(int f) {
            for (int g = 0; g < f; g++) {
                if (finer[g] == g && least[g] == least[f] && areAlike(g, f)) {
                    return g;
                }
            }
            return f;
        }

        private boolean areAlike(int f, int g) {
            int length = program.lengthOf(f);
            if (length != program.lengthOf(g)) {
                return false;
            }
            int spot = program.startOf(f);
            int other = program.startOf(g);
            for (int i = 0; i < length; i++) {
                if (!areAlikeSpots(spot + i, other + i)) {
                    return false;
                }
            }
            return true;
        }

        private boolean areAlikeSpots(int spot, int other) {
            int number = program.numberAt(spot);
            if (Signs.isCallOrTail(number)) {
                return number == program.numberAt(other)
                    && standTogether(program.aAt(spot), program.aAt(other));
            }
            return program.isSame(spot, other);
        }

        private boolean standTogether(int f, int g) {
            return f == g || program.hasFunction(f) && program.hasFunction(g) && least[f] == least[g];
        }
    }

    /** The linked words, and where the body of each function lies. */
    private static final class Image {
        static final int BASE = 4096;
        private static final int MOST_WORDS = 2 * Program.MOST_SPOTS;

        private final int[] words = new int[MOST_WORDS];
        private final int[] bodyOf = new int[Program.MOST_FUNCTIONS];
        private final int[] firstWord = new int[Program.MOST_FUNCTIONS];
        private int size;
        private int functions;

        void drop() {
            size = 0;
            functions = 0;
        }

        void begin(int howManyFunctions) {
            size = 0;
            functions = Math.min(howManyFunctions, Program.MOST_FUNCTIONS);
        }

        int size() {
            return size;
        }

        boolean hasFunction(int f) {
            return f >= 0 && f < functions;
        }

        void setBody(int f, int body) {
            if (hasFunction(f)) {
                bodyOf[f] = body;
            }
        }

        void setFirstWord(int f, int i) {
            if (hasFunction(f)) {
                firstWord[f] = i;
            }
        }

        int bodyOf(int f) {
            return hasFunction(f) ? bodyOf[f] : NONE;
        }

        boolean isBody(int f) {
            return hasFunction(f) && bodyOf[f] == f;
        }

        int bodies() {
            int bodies = 0;
            for (int f = 0; f < functions; f++) {
                if (isBody(f)) {
                    bodies++;
                }
            }
            return bodies;
        }

        int firstWordOf(int body) {
            return hasFunction(body) ? firstWord[body] : NONE;
        }

        int addressOf(int body) {
            return hasFunction(body) ? address(firstWord[body]) : NONE;
        }

        static int address(int i) {
            return BASE + 4 * i;
        }

        int indexAt(int address) {
            int i = (address - BASE) >> 2;
            return (address & 3) == 0 && i >= 0 && i < size ? i : NONE;
        }

        int wordAt(int i) {
            return i >= 0 && i < size ? words[i] : 0;
        }

        void append(int word) {
            if (size < MOST_WORDS) {
                words[size] = word;
                size++;
            }
        }
    }

    /** The routines of the image, each with its occurrences one behind the other. */
    private static final class Routines {
        static final int MOST = 60;
        private static final int MOST_OCCURRENCES = Program.MOST_SPOTS / 2;

        private final int[] spots = new int[MOST];
        private final int[] lengths = new int[MOST];
        private final int[] firsts = new int[MOST];
        private final int[] times = new int[MOST];
        private final int[] firstWords = new int[MOST];
        private final int[] owners = new int[MOST_OCCURRENCES];
        private final int[] bodies = new int[MOST_OCCURRENCES];
        private final int[] places = new int[MOST_OCCURRENCES];
        private final int[] words = new int[MOST_OCCURRENCES];
        private final int[] occurrenceAt = new int[Program.MOST_SPOTS];
        private int size;
        private int occurrences;

        Routines() {
            Arrays.fill(occurrenceAt, NONE);
        }

        void drop() {
            Arrays.fill(occurrenceAt, NONE);
            size = 0;
            occurrences = 0;
        }

        int size() {
            return size;
        }

        boolean has(int k) {
            return k >= 0 && k < size;
        }

        void addRoutine(int spot, int length) {
            if (size < MOST) {
                spots[size] = spot;
                lengths[size] = length;
                firsts[size] = occurrences;
                times[size] = 0;
                firstWords[size] = 0;
                size++;
            }
        }

        /** Of the latest routine. */
        void addOccurrence(int spot, int body, int place) {
            int k = size - 1;
            if (k >= 0 && occurrences < MOST_OCCURRENCES && spot >= 0 && spot < Program.MOST_SPOTS) {
                owners[occurrences] = k;
                bodies[occurrences] = body;
                places[occurrences] = place;
                words[occurrences] = 0;
                occurrenceAt[spot] = occurrences;
                occurrences++;
                times[k]++;
            }
        }

        int spotOf(int k) {
            return has(k) ? spots[k] : NONE;
        }

        int lengthOf(int k) {
            return has(k) ? lengths[k] : 0;
        }

        int timesOf(int k) {
            return has(k) ? times[k] : 0;
        }

        int savesOf(int k) {
            return has(k) ? savedBytes(lengths[k], times[k]) : 0;
        }

        int savesInAll() {
            int saves = 0;
            for (int k = 0; k < size; k++) {
                saves += savesOf(k);
            }
            return saves;
        }

        static int savedBytes(int length, int times) {
            return 4 * ((times - 1) * length - 1 - times);
        }

        void setFirstWord(int k, int i) {
            if (has(k)) {
                firstWords[k] = i;
            }
        }

        int firstWordOf(int k) {
            return has(k) ? firstWords[k] : NONE;
        }

        int addressOf(int k) {
            return has(k) ? Image.address(firstWords[k]) : NONE;
        }

        int indexOf(int k, int i) {
            return has(k) && i >= 0 && i < times[k] ? firsts[k] + i : NONE;
        }

        /** The occurrence that begins at the spot; NONE if none does. */
        int beginningAt(int spot) {
            return spot >= 0 && spot < occurrenceAt.length ? occurrenceAt[spot] : NONE;
        }

        private boolean hasIndex(int at) {
            return at >= 0 && at < occurrences;
        }

        int ownerAt(int at) {
            return hasIndex(at) ? owners[at] : NONE;
        }

        int bodyAt(int at) {
            return hasIndex(at) ? bodies[at] : NONE;
        }

        int placeAt(int at) {
            return hasIndex(at) ? places[at] : NONE;
        }

        void setWord(int at, int i) {
            if (hasIndex(at)) {
                words[at] = i;
            }
        }

        int wordAddressAt(int at) {
            return hasIndex(at) ? Image.address(words[at]) : NONE;
        }
    }

    /** Finds the routines of the bodies, the one that saves most first. */
    private static final class RoutineSearch {
        private static final int SHORTEST = 2;
        private static final int LONGEST = 20;
        private static final int SPOTS = Program.MOST_SPOTS;

        private final Program program;
        private final Image image;
        private final Routines routines;
        private final boolean[] open = new boolean[SPOTS];
        private final boolean[] entered = new boolean[SPOTS];
        /** How long the longest fit row from each spot is. */
        private final int[] reach = new int[SPOTS];
        /** By length and spot: the first spot where the same row begins, which names the row. */
        private final int[][] names = new int[LONGEST + 1][SPOTS];
        private final int[] heads = new int[SPOTS];
        private final int[] nexts = new int[SPOTS];
        private final int[] times = new int[SPOTS];
        private final int[] firsts = new int[SPOTS];
        private final int[] ends = new int[SPOTS];
        private int size;
        private int longestTwice;
        private int bestSaves;
        private int bestLength;
        private int bestSpot;

        RoutineSearch(Program program, Image image, Routines routines) {
            this.program = program;
            this.image = image;
            this.routines = routines;
        }

        void findAll() {
            size = Math.min(program.size(), SPOTS);
            markSpots();
            measureReach();
            nameRows();
            boolean found = true;
            for (int k = 0; found && k < Routines.MOST; k++) {
                chooseBest();
                found = bestSaves > 0;
                if (found) {
                    takeBest();
                    measureReach();
                }
            }
        }

        private void markSpots() {
            for (int spot = 0; spot < size; spot++) {
                open[spot] = false;
                entered[spot] = false;
            }
            for (int f = 0; f < program.functions(); f++) {
                if (image.isBody(f)) {
                    markSpotsOf(f);
                }
            }
        }

        private void markSpotsOf(int f) {
            int end = Math.min(program.endOf(f), size);
            for (int spot = program.startOf(f); spot < end; spot++) {
                open[spot] = Signs.mayBeInRow(program.numberAt(spot))
                    && !program.namesReturnRegister(spot);
                int goal = program.spotOf(f, program.placeTold(spot));
                if (goal >= 0 && goal < size) {
                    entered[goal] = true;
                }
            }
        }

        /** From the last spot to the first; no row crosses a function, whose last is never open. */
        private void measureReach() {
            int behind = 0;
            for (int spot = size - 1; spot >= 0; spot--) {
                reach[spot] = open[spot] ? Math.min(behind + 1, LONGEST) : 0;
                behind = entered[spot] ? 0 : reach[spot];
            }
        }

        /** Where no row comes twice, no longer one does. */
        private void nameRows() {
            longestTwice = 0;
            boolean twice = true;
            for (int length = 1; twice && length <= LONGEST; length++) {
                twice = nameRowsOf(length);
                if (twice) {
                    longestTwice = length;
                }
            }
        }

        /** Rows of which the shorter ones are the same are in one chain. True if a row comes twice. */
        private boolean nameRowsOf(int length) {
            boolean twice = false;
            Arrays.fill(heads, NONE);
            for (int spot = 0; spot < size; spot++) {
                int name = NONE;
                if (reach[spot] >= length) {
                    int chain = length == 1 ? program.mixAt(spot) : names[length - 1][spot];
                    name = nameInChain(chain, spot, length);
                }
                names[length][spot] = name;
                twice |= name != NONE && name != spot;
            }
            return twice;
        }

        private int nameInChain(int chain, int spot, int length) {
            if (chain < 0 || chain >= SPOTS) {
                return NONE;
            }
            int other = heads[chain];
            for (int i = 0; i < SPOTS && other >= 0 && other < SPOTS; i++) {
                if (haveSameLast(other, spot, length)) {
                    return other;
                }
                other = nexts[other];
            }
            nexts[spot] = heads[chain];
            heads[chain] = spot;
            return spot;
        }

        private boolean haveSameLast(int spot, int other, int length) {
            if (length == 1) {
                return program.isSame(spot, other);
            }
            int last = spot + length - 1;
            int otherLast = other + length - 1;
            return last < size && otherLast < size && names[1][last] == names[1][otherLast];
        }

        /**
         * Longer rows and earlier ones are looked at first, so only one that saves more wins. Rows
         * that do not come twice any more never will again: each routine leaves fewer that are fit.
         */
        private void chooseBest() {
            bestSaves = 0;
            for (int length = longestTwice; length >= SHORTEST; length--) {
                if (countRowsOf(length)) {
                    weighRowsOf(length);
                } else {
                    longestTwice = length - 1;
                }
            }
        }

        private int fitNameAt(int spot, int length) {
            return reach[spot] >= length ? names[length][spot] : NONE;
        }

        /** True if a row occurs twice, one behind the end of the other. */
        private boolean countRowsOf(int length) {
            boolean twice = false;
            Arrays.fill(times, 0);
            for (int spot = 0; spot < size; spot++) {
                int name = fitNameAt(spot, length);
                if (name >= 0 && name < SPOTS) {
                    if (times[name] == 0) {
                        firsts[name] = spot;
                        times[name] = 1;
                        ends[name] = spot + length;
                    } else if (spot >= ends[name]) {
                        twice = true;
                        times[name]++;
                        ends[name] = spot + length;
                    }
                }
            }
            return twice;
        }

        private void weighRowsOf(int length) {
            for (int spot = 0; spot < size; spot++) {
                int name = fitNameAt(spot, length);
                if (name >= 0 && name < SPOTS && firsts[name] == spot) {
                    int saves = Routines.savedBytes(length, times[name]);
                    if (saves > bestSaves) {
                        bestSaves = saves;
                        bestLength = length;
                        bestSpot = spot;
                    }
                }
            }
        }

        private void takeBest() {
            routines.addRoutine(bestSpot, bestLength);
            int wanted = fitNameAt(bestSpot, bestLength);
            int end = bestSpot;
            for (int spot = bestSpot; spot < size; spot++) {
                if (spot >= end && fitNameAt(spot, bestLength) == wanted) {
                    int f = program.functionAt(spot);
                    routines.addOccurrence(spot, f, spot - program.startOf(f));
                    end = spot + bestLength;
                }
                if (spot < end) {
                    open[spot] = false;
                }
            }
        }
    }

    /** Lays bodies and routines out, and writes their words. */
    private static final class Linker {
        private final Program program;
        private final Image image;
        private final Routines routines;
        private final int[] wordOf = new int[Program.MOST_SPOTS];

        Linker(Program program, Image image, Routines routines) {
            this.program = program;
            this.image = image;
            this.routines = routines;
        }

        void link() {
            int next = 0;
            for (int f = 0; f < program.functions(); f++) {
                if (image.isBody(f)) {
                    next = layOutBody(f, next);
                }
            }
            for (int k = 0; k < routines.size(); k++) {
                routines.setFirstWord(k, next);
                next += routines.lengthOf(k) + 1;
            }
            for (int f = 0; f < program.functions(); f++) {
                if (image.isBody(f)) {
                    writeBody(f);
                }
            }
            for (int k = 0; k < routines.size(); k++) {
                writeRoutine(k);
            }
        }

        private int layOutBody(int f, int first) {
            image.setFirstWord(f, first);
            int next = first;
            int end = Math.min(program.endOf(f), wordOf.length);
            int inside = 0;
            for (int spot = program.startOf(f); spot < end; spot++) {
                int at = routines.beginningAt(spot);
                if (at != NONE) {
                    inside = routines.lengthOf(routines.ownerAt(at));
                    routines.setWord(at, next);
                    wordOf[spot] = next;
                    next++;
                } else if (inside == 0) {
                    wordOf[spot] = next;
                    next += program.numberAt(spot) == Signs.ADDR ? 2 : 1;
                }
                inside = Math.max(inside - 1, 0);
            }
            return next;
        }

        private void writeBody(int f) {
            int inside = 0;
            for (int spot = program.startOf(f); spot < program.endOf(f); spot++) {
                int at = routines.beginningAt(spot);
                if (at != NONE) {
                    int k = routines.ownerAt(at);
                    inside = routines.lengthOf(k);
                    writeJump(Signs.LINK_REGISTER, routines.firstWordOf(k));
                } else if (inside == 0) {
                    writeInstruction(f, spot);
                }
                inside = Math.max(inside - 1, 0);
            }
        }

        private void writeRoutine(int k) {
            int first = routines.spotOf(k);
            for (int i = 0; i < routines.lengthOf(k); i++) {
                writePlain(first + i);
            }
            image.append(Rv32.jumpRegisterWord(0, Signs.LINK_REGISTER));
        }

        private void writeInstruction(int f, int spot) {
            int a = program.aAt(spot);
            int number = program.numberAt(spot);
            switch (number) {
                case Signs.JUMP:
                    writeJump(0, wordOfPlace(f, a));
                    break;
                case Signs.CALL:
                    writeJump(Signs.RETURN_REGISTER, image.firstWordOf(image.bodyOf(a)));
                    break;
                case Signs.TAIL:
                    writeJump(0, image.firstWordOf(image.bodyOf(a)));
                    break;
                case Signs.RET:
                    image.append(Rv32.jumpRegisterWord(0, Signs.RETURN_REGISTER));
                    break;
                case Signs.ADDR:
                    writeAddress(a, image.addressOf(image.bodyOf(program.bAt(spot))));
                    break;
                case Signs.ICALL:
                    image.append(Rv32.jumpRegisterWord(Signs.RETURN_REGISTER, a));
                    break;
                default:
                    if (Signs.isBranch(number)) {
                        writeBranch(f, spot);
                    } else {
                        writePlain(spot);
                    }
            }
        }

        /** Those that go nowhere: their words are the same wherever they lie. */
        private void writePlain(int spot) {
            int number = program.numberAt(spot);
            int a = program.aAt(spot);
            int b = program.bAt(spot);
            int c = program.cAt(spot);
            switch (number) {
                case Signs.LUI:
                    image.append(Rv32.upperWord(a, b));
                    break;
                case Signs.LW:
                    image.append(Rv32.loadWord(a, b, c));
                    break;
                case Signs.SW:
                    image.append(Rv32.storeWord(a, b, c));
                    break;
                case Signs.PRINT:
                    image.append(Rv32.CODE_SYSTEM);
                    break;
                default:
                    image.append(number < Signs.ADDI
                        ? Rv32.registersWord(number, a, b, c) : Rv32.immediateWord(number, a, b, c));
            }
        }

        private int wordOfPlace(int f, int place) {
            int spot = program.spotOf(f, place);
            return spot >= 0 && spot < wordOf.length ? wordOf[spot] : 0;
        }

        private void writeBranch(int f, int spot) {
            int offset = 4 * (wordOfPlace(f, program.cAt(spot)) - image.size());
            int number = program.numberAt(spot);
            image.append(Rv32.branchWord(number, program.aAt(spot), program.bAt(spot), offset));
        }

        private void writeJump(int link, int goal) {
            image.append(Rv32.jumpWord(link, 4 * (goal - image.size())));
        }

        private void writeAddress(int a, int address) {
            int low = address << 20 >> 20;
            int upper = (address - low) >>> 12;
            image.append(Rv32.upperWord(a, upper));
            image.append(Rv32.immediateWord(Signs.ADDI, a, a, low));
        }
    }

    /** What the two sorts of runs have in common. */
    private abstract static class Machine {
        static final int MOST_FUEL = 20000;
        static final int ENDS = 0;
        static final int OUT_OF_FUEL = 1;
        static final int UNDEFINED = 2;
        static final int GOES_ON = 3;
        static final int MEMORY_WORDS = 64;
        private static final int MEMORY_BASE = 65536;
        private static final int MOST_KEPT = 200;

        private final int[] kept = new int[MOST_KEPT];
        private boolean hasRun;
        private int outcome;
        private int steps;
        private int prints;

        abstract boolean isReady();

        abstract void restart();

        /** One step: GOES_ON or ENDS if it is done, UNDEFINED if it can't be. */
        abstract int step();

        abstract int where();

        abstract int whichPlace();

        abstract int registerAt(int k);

        abstract int memoryAt(int k);

        int drive(int fuel) {
            hasRun = true;
            prints = 0;
            restart();
            int state = GOES_ON;
            int done = 0;
            for (int i = 0; i < fuel && state == GOES_ON; i++) {
                state = step();
                if (state != UNDEFINED) {
                    done++;
                }
            }
            steps = done;
            outcome = state == GOES_ON ? OUT_OF_FUEL : state;
            return outcome;
        }

        boolean hasRun() {
            return hasRun;
        }

        int outcome() {
            return outcome;
        }

        int steps() {
            return steps;
        }

        int prints() {
            return prints;
        }

        int printAt(int i) {
            return i >= 0 && i < prints && i < MOST_KEPT ? kept[i] : 0;
        }

        void keepPrint(int number) {
            if (prints >= 0 && prints < MOST_KEPT) {
                kept[prints] = number;
            }
            prints++;
        }

        static boolean isRegister(int k) {
            return k >= 0 && k < Signs.REGISTERS;
        }

        static boolean isMemoryWord(int k) {
            return k >= 0 && k < MEMORY_WORDS;
        }

        static int memoryIndex(int address) {
            int k = (address - MEMORY_BASE) >> 2;
            return (address & 3) == 0 && isMemoryWord(k) ? k : NONE;
        }
    }

    /** Runs the functions by what their signs mean. Each value is of a sort. */
    private static final class ToldMachine extends Machine {
        private static final int NUMBER = 0;
        private static final int ADDRESS = 1;
        private static final int RETURN = 2;
        private static final int THE_END = -1;
        /** A return is its function and, in so many bits, its place. */
        private static final int PLACE_BITS = 6;
        private static final int PLACE_MASK = 63;

        private final Program program;
        private final int[] sorts = new int[Signs.REGISTERS];
        private final int[] values = new int[Signs.REGISTERS];
        private final int[] memorySorts = new int[MEMORY_WORDS];
        private final int[] memoryValues = new int[MEMORY_WORDS];
        private int function;
        private int place;

        ToldMachine(Program program) {
            this.program = program;
        }

        boolean isReady() {
            return program.hasFunction(0);
        }

        void restart() {
            Arrays.fill(sorts, NUMBER);
            Arrays.fill(values, 0);
            Arrays.fill(memorySorts, NUMBER);
            Arrays.fill(memoryValues, 0);
            write(Signs.RETURN_REGISTER, RETURN, THE_END);
            function = 0;
            place = 0;
        }

        int where() {
            return outcome() == ENDS ? NONE : function;
        }

        int whichPlace() {
            return outcome() == ENDS ? NONE : place;
        }

        int registerAt(int k) {
            return isNumber(k) ? valueIn(k) : 0;
        }

        int memoryAt(int k) {
            return isMemoryWord(k) && memorySorts[k] == NUMBER ? memoryValues[k] : 0;
        }

        int step() {
            int spot = program.spotOf(function, place);
            if (spot == NONE) {
                return UNDEFINED;
            }
            int number = program.numberAt(spot);
            int a = program.aAt(spot);
            if (number <= Signs.SRAI) {
                return calculate(spot, number);
            }
            if (Signs.isBranch(number)) {
                return branch(spot, number);
            }
            switch (number) {
                case Signs.LUI:
                    return writeAndGoOn(a, NUMBER, program.bAt(spot) << 12);
                case Signs.LW:
                    return load(spot);
                case Signs.SW:
                    return store(spot);
                case Signs.JUMP:
                    return goTo(function, a);
                case Signs.CALL:
                    return callFunction(a);
                case Signs.TAIL:
                    return goTo(a, 0);
                case Signs.RET:
                    return goBack();
                case Signs.ADDR:
                    return writeAndGoOn(a, ADDRESS, program.bAt(spot));
                case Signs.ICALL:
                    return sortIn(a) == ADDRESS ? callFunction(valueIn(a)) : UNDEFINED;
                case Signs.PRINT:
                    return print();
                default:
                    return UNDEFINED;
            }
        }

        private int calculate(int spot, int number) {
            int a = program.aAt(spot);
            int b = program.bAt(spot);
            int c = program.cAt(spot);
            if (number == Signs.ADDI && c == 0) {
                return writeAndGoOn(a, sortIn(b), valueIn(b));
            }
            boolean isOfRegisters = number < Signs.ADDI;
            if (!isNumber(b) || isOfRegisters && !isNumber(c)) {
                return UNDEFINED;
            }
            int right = isOfRegisters ? valueIn(c) : c;
            int selector = Rv32.selectorOf(number);
            int result = Rv32.calculate(selector, Rv32.isOther(number), valueIn(b), right);
            return writeAndGoOn(a, NUMBER, result);
        }

        private int branch(int spot, int number) {
            int a = program.aAt(spot);
            int b = program.bAt(spot);
            boolean areNumbers = isNumber(a) && isNumber(b);
            boolean areAddresses = sortIn(a) == ADDRESS && sortIn(b) == ADDRESS;
            boolean isOfSameness = number == Signs.BEQ || number == Signs.BNE;
            if (!areNumbers && !(areAddresses && isOfSameness)) {
                return UNDEFINED;
            }
            if (Rv32.branches(Rv32.selectorOf(number), valueIn(a), valueIn(b))) {
                return goTo(function, program.cAt(spot));
            }
            return goOn();
        }

        private int load(int spot) {
            int k = memoryIndexOf(spot);
            if (!isMemoryWord(k)) {
                return UNDEFINED;
            }
            return writeAndGoOn(program.aAt(spot), memorySorts[k], memoryValues[k]);
        }

        private int store(int spot) {
            int k = memoryIndexOf(spot);
            if (!isMemoryWord(k)) {
                return UNDEFINED;
            }
            memorySorts[k] = sortIn(program.aAt(spot));
            memoryValues[k] = valueIn(program.aAt(spot));
            return goOn();
        }

        private int memoryIndexOf(int spot) {
            int b = program.bAt(spot);
            return isNumber(b) ? memoryIndex(valueIn(b) + program.cAt(spot)) : NONE;
        }

        private int callFunction(int f) {
            write(Signs.RETURN_REGISTER, RETURN, function << PLACE_BITS | place + 1);
            return goTo(f, 0);
        }

        private int goBack() {
            if (sortIn(Signs.RETURN_REGISTER) != RETURN) {
                return UNDEFINED;
            }
            int goal = valueIn(Signs.RETURN_REGISTER);
            return goal == THE_END ? ENDS : goTo(goal >> PLACE_BITS, goal & PLACE_MASK);
        }

        private int print() {
            if (!isNumber(Signs.PRINT_REGISTER)) {
                return UNDEFINED;
            }
            keepPrint(valueIn(Signs.PRINT_REGISTER));
            return goOn();
        }

        private int goTo(int f, int goal) {
            function = f;
            place = goal;
            return GOES_ON;
        }

        private int goOn() {
            place++;
            return GOES_ON;
        }

        private int writeAndGoOn(int k, int sort, int value) {
            write(k, sort, value);
            return goOn();
        }

        private void write(int k, int sort, int value) {
            if (k != 0 && isRegister(k)) {
                sorts[k] = sort;
                values[k] = value;
            }
        }

        private int sortIn(int k) {
            return k >= 0 && k < sorts.length ? sorts[k] : NUMBER;
        }

        private int valueIn(int k) {
            return k >= 0 && k < values.length ? values[k] : 0;
        }

        private boolean isNumber(int k) {
            return sortIn(k) == NUMBER;
        }
    }

    /** Runs the image by what its words are. */
    private static final class ImageMachine extends Machine {
        private final Image image;
        private final int[] registers = new int[Signs.REGISTERS];
        private final int[] memoryWords = new int[MEMORY_WORDS];
        private int pc;

        ImageMachine(Image image) {
            this.image = image;
        }

        boolean isReady() {
            return image.size() > 0;
        }

        void restart() {
            Arrays.fill(registers, 0);
            Arrays.fill(memoryWords, 0);
            pc = image.addressOf(image.bodyOf(0));
        }

        int where() {
            return pc;
        }

        int whichPlace() {
            return NONE;
        }

        int registerAt(int k) {
            return isRegister(k) ? registers[k] : 0;
        }

        int memoryAt(int k) {
            return isMemoryWord(k) ? memoryWords[k] : 0;
        }

        int step() {
            int i = image.indexAt(pc);
            if (i == NONE) {
                return UNDEFINED;
            }
            int word = image.wordAt(i);
            int target = Rv32.targetOf(word);
            switch (Rv32.codeOf(word)) {
                case Rv32.CODE_REGISTERS:
                    return writeAndGoOn(target, calculateByRegisters(word));
                case Rv32.CODE_IMMEDIATE:
                    return writeAndGoOn(target, calculateByImmediate(word));
                case Rv32.CODE_UPPER:
                    return writeAndGoOn(target, word & 0xFFFFF000);
                case Rv32.CODE_LOAD:
                    return load(word);
                case Rv32.CODE_STORE:
                    return store(word);
                case Rv32.CODE_BRANCH:
                    return branch(word);
                case Rv32.CODE_JUMP:
                    return jump(target, pc + Rv32.jumpOffsetOf(word));
                case Rv32.CODE_JUMP_REGISTER:
                    return jump(target, firstIn(word) + Rv32.immediateOf(word) & ~1);
                case Rv32.CODE_SYSTEM:
                    keepPrint(registers[Signs.PRINT_REGISTER]);
                    return goOn();
                default:
                    return UNDEFINED;
            }
        }

        private int calculateByRegisters(int word) {
            int selector = Rv32.selectorIn(word);
            return Rv32.calculate(selector, Rv32.isOtherIn(word), firstIn(word), secondIn(word));
        }

        /** The bit that tells SRAI from SRLI is a part of the number in all others. */
        private int calculateByImmediate(int word) {
            int selector = Rv32.selectorIn(word);
            boolean other = selector == 5 && Rv32.isOtherIn(word);
            return Rv32.calculate(selector, other, firstIn(word), Rv32.immediateOf(word));
        }

        private int load(int word) {
            int k = memoryIndex(firstIn(word) + Rv32.immediateOf(word));
            if (!isMemoryWord(k)) {
                return UNDEFINED;
            }
            return writeAndGoOn(Rv32.targetOf(word), memoryWords[k]);
        }

        private int store(int word) {
            int k = memoryIndex(firstIn(word) + Rv32.storeOffsetOf(word));
            if (!isMemoryWord(k)) {
                return UNDEFINED;
            }
            memoryWords[k] = secondIn(word);
            return goOn();
        }

        private int branch(int word) {
            if (Rv32.branches(Rv32.selectorIn(word), firstIn(word), secondIn(word))) {
                return goTo(pc + Rv32.branchOffsetOf(word));
            }
            return goOn();
        }

        /** The goal is reckoned before the link is written: they may be one register. */
        private int jump(int link, int goal) {
            write(link, pc + 4);
            return goTo(goal);
        }

        private int goTo(int goal) {
            pc = goal;
            return pc == 0 ? ENDS : GOES_ON;
        }

        private int goOn() {
            return goTo(pc + 4);
        }

        private int writeAndGoOn(int k, int value) {
            write(k, value);
            return goOn();
        }

        private void write(int k, int value) {
            if (k != 0 && isRegister(k)) {
                registers[k] = value;
            }
        }

        private int firstIn(int word) {
            return registers[Rv32.firstOf(word)];
        }

        private int secondIn(int word) {
            return registers[Rv32.secondOf(word)];
        }
    }
}
