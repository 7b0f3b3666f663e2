import java.util.ArrayList;
import java.util.HashMap;
import java.util.List;
import java.util.Map;

/**
 * The document once more, word by word and without any care for speed: what LinkPress is compared
 * with. It shares no code with LinkPress and takes other ways wherever there is another way.
 */
final class PlainPress {
    static final int ENDS = 0;
    static final int FUEL = 1;
    static final int UNDEFINED = 2;

    /** r register, i low, s shift, u upper, p place, f function, - not told. */
    private static final String[] TOLD = new String[35];

    static {
        for (int n = 0; n <= 9; n++) TOLD[n] = "rrr";
        for (int n = 10; n <= 15; n++) TOLD[n] = "rri";
        for (int n = 16; n <= 18; n++) TOLD[n] = "rrs";
        TOLD[19] = "ru-";
        TOLD[20] = "rri";
        TOLD[21] = "rri";
        for (int n = 22; n <= 27; n++) TOLD[n] = "rrp";
        TOLD[28] = "p--";
        TOLD[29] = "f--";
        TOLD[30] = "f--";
        TOLD[31] = "---";
        TOLD[32] = "rf-";
        TOLD[33] = "r--";
        TOLD[34] = "---";
    }

    record Sign(int number, List<Integer> told) {
        int at(int i) {
            return told.get(i);
        }
    }

    /** sort 'n' number, 'a' address of function x, 'r' return to (x, y), x -1 the end. */
    record Value(char sort, int x, int y) {
        static Value number(int n) {
            return new Value('n', n, 0);
        }

        boolean isNumber() {
            return sort == 'n';
        }
    }

    static final class Run {
        int how;
        int steps;
        int pc;
        int function;
        int place;
        final List<Integer> prints = new ArrayList<>();
        final int[] registers = new int[32];
        final int[] memory = new int[64];
    }

    static final class Routine {
        List<Sign> row;
        int saves;
        int address;
        final List<int[]> occurrences = new ArrayList<>();
    }

    private final List<List<Sign>> functions = new ArrayList<>();
    private List<Integer> words;
    private int[] imageBody;
    private int[] imageAddress;
    private List<Routine> routines = new ArrayList<>();
    private final Run[] runs = new Run[2];

    int function() {
        if (functions.size() == 24) return -1;
        functions.add(new ArrayList<>());
        return functions.size() - 1;
    }

    int put(int f, int number, int a, int b, int c) {
        if (f < 0 || f >= functions.size() || number < 0 || number > 34) return -1;
        int[] given = {a, b, c};
        List<Integer> told = new ArrayList<>();
        for (int i = 0; i < 3; i++) {
            int v = given[i];
            switch (TOLD[number].charAt(i)) {
                case 'r': if (v < 0 || v > 31 || v == 5) return -1; break;
                case 'i': if (v < -2048 || v > 2047) return -1; break;
                case 's': if (v < 0 || v > 31) return -1; break;
                case 'u': if (v < 0 || v > 1048575) return -1; break;
                case 'p': if (v < 0 || v > 39) return -1; break;
                case 'f': if (v < 0 || v > 23) return -1; break;
                default: continue;
            }
            told.add(v);
        }
        if (functions.get(f).size() == 40 || total() == 300) return -1;
        functions.get(f).add(new Sign(number, told));
        return functions.get(f).size() - 1;
    }

    private int total() {
        int n = 0;
        for (List<Sign> f : functions) n += f.size();
        return n;
    }

    int clear() {
        int n = functions.size();
        functions.clear();
        words = null;
        routines = new ArrayList<>();
        return n;
    }

    private boolean taken(int f) {
        for (List<Sign> g : functions) {
            for (Sign s : g) {
                if (s.number == 32 && s.at(1) == f) return true;
            }
        }
        return false;
    }

    /** Pairs that are struck out until no pair more must be: the coarsest congruence. */
    private boolean[][] together() {
        int n = functions.size();
        boolean[][] t = new boolean[24][24];
        for (int f = 0; f < 24; f++) {
            for (int g = 0; g < 24; g++) t[f][g] = f == g || f < n && g < n;
        }
        boolean again = true;
        while (again) {
            again = false;
            for (int f = 0; f < n; f++) {
                for (int g = 0; g < n; g++) {
                    if (t[f][g] && !match(functions.get(f), functions.get(g), t)) {
                        t[f][g] = false;
                        again = true;
                    }
                }
            }
        }
        return t;
    }

    private static boolean match(List<Sign> f, List<Sign> g, boolean[][] t) {
        if (f.size() != g.size()) return false;
        for (int i = 0; i < f.size(); i++) {
            Sign s = f.get(i);
            Sign o = g.get(i);
            if (s.number != o.number) return false;
            boolean calls = s.number == 29 || s.number == 30;
            if (calls ? !t[s.at(0)][o.at(0)] : !s.told.equals(o.told)) return false;
        }
        return true;
    }

    private int leastOfClass(int f) {
        boolean[][] t = together();
        for (int g = 0; g < functions.size(); g++) {
            if (t[f][g]) return g;
        }
        throw new AssertionError();
    }

    private int bodyOf(int f) {
        if (taken(f)) return f;
        boolean[][] t = together();
        for (int g = 0; g < functions.size(); g++) {
            if (t[f][g] && taken(g)) return g;
        }
        return leastOfClass(f);
    }

    private int refusal() {
        if (functions.isEmpty()) return 1;
        for (List<Sign> f : functions) {
            if (f.isEmpty()) return 2;
            int last = f.get(f.size() - 1).number;
            if (last != 28 && last != 30 && last != 31) return 2;
        }
        for (List<Sign> f : functions) {
            for (Sign s : f) {
                if (goal(s) >= f.size()) return 3;
            }
        }
        for (List<Sign> f : functions) {
            for (Sign s : f) {
                boolean one = s.number == 29 || s.number == 30;
                if (one && s.at(0) >= functions.size()) return 4;
                if (s.number == 32 && s.at(1) >= functions.size()) return 4;
            }
        }
        return 0;
    }

    private static int goal(Sign s) {
        if (s.number >= 22 && s.number <= 27) return s.at(2);
        return s.number == 28 ? s.at(0) : -1;
    }

    int press(boolean folds, boolean withRoutines) {
        int refusal = refusal();
        if (refusal != 0) return -refusal;
        int n = functions.size();
        imageBody = new int[n];
        for (int f = 0; f < n; f++) imageBody[f] = folds ? bodyOf(f) : f;
        routines = new ArrayList<>();
        boolean[][] used = new boolean[n][40];
        if (withRoutines) findRoutines(used);
        link(used);
        return words.size();
    }

    private boolean fit(int f, int place, int length, boolean[][] used) {
        List<Sign> body = functions.get(f);
        if (imageBody[f] != f || place + length > body.size()) return false;
        for (int i = place; i < place + length; i++) {
            Sign s = body.get(i);
            if (s.number > 21 && s.number != 34 || used[f][i]) return false;
            for (int j = 0; j < s.told.size(); j++) {
                if (TOLD[s.number].charAt(j) == 'r' && s.at(j) == 1) return false;
            }
        }
        for (Sign s : body) {
            if (goal(s) > place && goal(s) < place + length) return false;
        }
        return true;
    }

    private List<int[]> occurrences(List<Sign> row, boolean[][] used) {
        List<int[]> found = new ArrayList<>();
        for (int f = 0; f < functions.size(); f++) {
            int next = 0;
            for (int p = 0; p < functions.get(f).size(); p++) {
                if (p >= next && fit(f, p, row.size(), used)
                    && functions.get(f).subList(p, p + row.size()).equals(row)) {
                    found.add(new int[] {f, p, 0});
                    next = p + row.size();
                }
            }
        }
        return found;
    }

    private void findRoutines(boolean[][] used) {
        while (routines.size() < 60) {
            Routine best = null;
            Map<List<Sign>, Boolean> seen = new HashMap<>();
            for (int f = 0; f < functions.size(); f++) {
                for (int p = 0; p < functions.get(f).size(); p++) {
                    for (int length = 2; length <= 20 && fit(f, p, length, used); length++) {
                        List<Sign> row = new ArrayList<>(functions.get(f).subList(p, p + length));
                        if (seen.put(row, true) != null) continue;
                        Routine r = new Routine();
                        r.row = row;
                        r.occurrences.addAll(occurrences(row, used));
                        int k = r.occurrences.size();
                        r.saves = 4 * ((k - 1) * length - 1 - k);
                        if (better(r, best)) best = r;
                    }
                }
            }
            if (best == null || best.saves <= 0) return;
            for (int[] o : best.occurrences) {
                for (int i = 0; i < best.row.size(); i++) used[o[0]][o[1] + i] = true;
            }
            routines.add(best);
        }
    }

    private static boolean better(Routine r, Routine best) {
        if (best == null || r.saves != best.saves) return best == null || r.saves > best.saves;
        if (r.row.size() != best.row.size()) return r.row.size() > best.row.size();
        int[] x = r.occurrences.get(0);
        int[] y = best.occurrences.get(0);
        return x[0] != y[0] ? x[0] < y[0] : x[1] < y[1];
    }

    private int[] occurrenceWith(int f, int p) {
        for (int k = 0; k < routines.size(); k++) {
            for (int i = 0; i < routines.get(k).occurrences.size(); i++) {
                int[] o = routines.get(k).occurrences.get(i);
                if (o[0] == f && p >= o[1] && p < o[1] + routines.get(k).row.size()) {
                    return new int[] {k, i, p - o[1]};
                }
            }
        }
        return null;
    }

    private void link(boolean[][] used) {
        int n = functions.size();
        int[][] address = new int[n][40];
        imageAddress = new int[n];
        int at = 4096;
        for (int f = 0; f < n; f++) {
            if (imageBody[f] != f) continue;
            imageAddress[f] = at;
            for (int p = 0; p < functions.get(f).size(); p++) {
                address[f][p] = at;
                int[] o = used[f][p] ? occurrenceWith(f, p) : null;
                if (o == null) {
                    at += functions.get(f).get(p).number == 32 ? 8 : 4;
                } else if (o[2] == 0) {
                    routines.get(o[0]).occurrences.get(o[1])[2] = at;
                    at += 4;
                }
            }
        }
        for (Routine r : routines) {
            r.address = at;
            at += 4 * r.row.size() + 4;
        }
        words = new ArrayList<>();
        for (int f = 0; f < n; f++) {
            if (imageBody[f] != f) continue;
            for (int p = 0; p < functions.get(f).size(); p++) {
                int[] o = used[f][p] ? occurrenceWith(f, p) : null;
                if (o == null) {
                    emit(functions.get(f).get(p), address[f]);
                } else if (o[2] == 0) {
                    emitJal(5, routines.get(o[0]).address);
                }
            }
        }
        for (Routine r : routines) {
            for (Sign s : r.row) emit(s, null);
            emitBits(bits(0, 12) + bits(5, 5) + "000" + bits(0, 5) + "1100111");
        }
    }

    private static String bits(int value, int n) {
        StringBuilder b = new StringBuilder();
        for (int i = n - 1; i >= 0; i--) b.append((value >> i & 1) == 1 ? '1' : '0');
        return b.toString();
    }

    private void emitBits(String bits) {
        if (bits.length() != 32) throw new AssertionError(bits);
        words.add((int) Long.parseLong(bits, 2));
    }

    private int here() {
        return 4096 + 4 * words.size();
    }

    private void emitJal(int rd, int goal) {
        String o = bits(goal - here(), 21);
        emitBits(o.substring(0, 1) + o.substring(10, 20) + o.substring(9, 10) + o.substring(1, 9)
            + bits(rd, 5) + "1101111");
    }

    private static final String[] F3 = {
        "000", "000", "111", "110", "100", "001", "101", "101", "010", "011",
        "000", "111", "110", "100", "010", "011", "001", "101", "101", null,
        "010", "010", "000", "001", "100", "101", "110", "111"};

    private void emit(Sign s, int[] address) {
        int n = s.number;
        if (n <= 9) {
            String f7 = n == 1 || n == 7 ? "0100000" : "0000000";
            emitBits(f7 + bits(s.at(2), 5) + bits(s.at(1), 5) + F3[n] + bits(s.at(0), 5) + "0110011");
        } else if (n <= 15) {
            emitBits(bits(s.at(2), 12) + bits(s.at(1), 5) + F3[n] + bits(s.at(0), 5) + "0010011");
        } else if (n <= 18) {
            String f7 = n == 18 ? "0100000" : "0000000";
            emitBits(f7 + bits(s.at(2), 5) + bits(s.at(1), 5) + F3[n] + bits(s.at(0), 5) + "0010011");
        } else if (n == 19) {
            emitBits(bits(s.at(1), 20) + bits(s.at(0), 5) + "0110111");
        } else if (n == 20) {
            emitBits(bits(s.at(2), 12) + bits(s.at(1), 5) + "010" + bits(s.at(0), 5) + "0000011");
        } else if (n == 21) {
            String i = bits(s.at(2), 12);
            emitBits(i.substring(0, 7) + bits(s.at(0), 5) + bits(s.at(1), 5) + "010" + i.substring(7)
                + "0100011");
        } else if (n <= 27) {
            String o = bits(address[s.at(2)] - here(), 13);
            emitBits(o.substring(0, 1) + o.substring(2, 8) + bits(s.at(1), 5) + bits(s.at(0), 5) + F3[n]
                + o.substring(8, 12) + o.substring(1, 2) + "1100011");
        } else {
            emitOfControl(s, address);
        }
    }

    private void emitOfControl(Sign s, int[] address) {
        switch (s.number) {
            case 28: emitJal(0, address[s.at(0)]); break;
            case 29: emitJal(1, imageAddress[imageBody[s.at(0)]]); break;
            case 30: emitJal(0, imageAddress[imageBody[s.at(0)]]); break;
            case 31: emitBits(bits(0, 12) + bits(1, 5) + "000" + bits(0, 5) + "1100111"); break;
            case 32:
                int goal = imageAddress[imageBody[s.at(1)]];
                int low = goal % 4096 >= 2048 ? goal % 4096 - 4096 : goal % 4096;
                int high = goal / 4096 + (low < 0 ? 1 : 0);
                emitBits(bits(high, 20) + bits(s.at(0), 5) + "0110111");
                emitBits(bits(low, 12) + bits(s.at(0), 5) + "000" + bits(s.at(0), 5) + "0010011");
                break;
            case 33: emitBits(bits(0, 12) + bits(s.at(0), 5) + "000" + bits(1, 5) + "1100111"); break;
            default: emitBits(bits(0, 25) + "1110011");
        }
    }

    int about(int f, int what) {
        if (f < 0 || f >= functions.size()) return -1;
        return switch (what) {
            case 0 -> functions.get(f).size();
            case 1 -> taken(f) ? 1 : 0;
            case 2 -> leastOfClass(f);
            default -> -1;
        };
    }

    int body(int f, int what) {
        if (words == null || f < 0 || f >= imageBody.length || what < 0 || what > 1) return -1;
        return what == 0 ? imageBody[f] : imageAddress[imageBody[f]];
    }

    int routine(int k, int what) {
        if (k < 0 || k >= routines.size()) return -1;
        Routine r = routines.get(k);
        return switch (what) {
            case 0 -> r.row.size();
            case 1 -> r.occurrences.size();
            case 2 -> r.saves;
            case 3 -> r.address;
            default -> -1;
        };
    }

    int occurrence(int k, int i, int what) {
        if (k < 0 || k >= routines.size() || what < 0 || what > 2) return -1;
        List<int[]> o = routines.get(k).occurrences;
        return i < 0 || i >= o.size() ? -1 : o.get(i)[what];
    }

    int word(int i) {
        return words == null || i < 0 || i >= words.size() ? 0 : words.get(i);
    }

    int run(int which, int fuel) {
        if (which < 0 || which > 1 || fuel < 1 || fuel > 20000) return -1;
        if (which == 0 ? functions.isEmpty() : words == null) return -1;
        runs[which] = which == 0 ? runTold(fuel) : runImage(fuel);
        return runs[which].how;
    }

    private Run runTold(int fuel) {
        Run run = new Run();
        Value[] reg = new Value[32];
        Value[] mem = new Value[64];
        java.util.Arrays.fill(reg, Value.number(0));
        java.util.Arrays.fill(mem, Value.number(0));
        reg[1] = new Value('r', -1, 0);
        run.how = FUEL;
        while (run.steps < fuel) {
            int how = stepTold(run, reg, mem);
            reg[0] = Value.number(0);
            if (how != UNDEFINED) run.steps++;
            if (how != FUEL) {
                run.how = how;
                break;
            }
        }
        for (int i = 0; i < 32; i++) run.registers[i] = reg[i].isNumber() ? reg[i].x : 0;
        for (int i = 0; i < 64; i++) run.memory[i] = mem[i].isNumber() ? mem[i].x : 0;
        return run;
    }

    /** FUEL as an answer here: it goes on. */
    private int stepTold(Run run, Value[] reg, Value[] mem) {
        if (run.function >= functions.size()) return UNDEFINED;
        List<Sign> f = functions.get(run.function);
        if (run.place >= f.size()) return UNDEFINED;
        Sign s = f.get(run.place);
        int n = s.number;
        if (n == 10 && s.at(2) == 0) {
            reg[s.at(0)] = reg[s.at(1)];
        } else if (n <= 18) {
            Value x = reg[s.at(1)];
            Value y = n <= 9 ? reg[s.at(2)] : Value.number(s.at(2));
            if (!x.isNumber() || !y.isNumber()) return UNDEFINED;
            reg[s.at(0)] = Value.number(reckon(n, x.x, y.x));
        } else if (n == 19) {
            reg[s.at(0)] = Value.number(s.at(1) * 4096);
        } else if (n == 20 || n == 21) {
            if (!reg[s.at(1)].isNumber()) return UNDEFINED;
            int at = reg[s.at(1)].x + s.at(2);
            if (at % 4 != 0 || at < 65536 || at > 65536 + 252) return UNDEFINED;
            int k = (at - 65536) / 4;
            if (n == 20) reg[s.at(0)] = mem[k];
            else mem[k] = reg[s.at(0)];
        } else if (n <= 27) {
            Value x = reg[s.at(0)];
            Value y = reg[s.at(1)];
            boolean numbers = x.isNumber() && y.isNumber();
            boolean addresses = n <= 23 && x.sort == 'a' && y.sort == 'a';
            if (!numbers && !addresses) return UNDEFINED;
            if (decide(n, x.x, y.x)) {
                run.place = s.at(2);
                return FUEL;
            }
        } else {
            return stepControl(run, reg, s);
        }
        run.place++;
        return FUEL;
    }

    private int stepControl(Run run, Value[] reg, Sign s) {
        Value behind = new Value('r', run.function, run.place + 1);
        switch (s.number) {
            case 28:
                run.place = s.at(0);
                return FUEL;
            case 29:
            case 30:
                if (s.number == 29) reg[1] = behind;
                run.function = s.at(0);
                run.place = 0;
                return FUEL;
            case 31:
                if (reg[1].sort != 'r') return UNDEFINED;
                if (reg[1].x < 0) return ENDS;
                run.function = reg[1].x;
                run.place = reg[1].y;
                return FUEL;
            case 32:
                reg[s.at(0)] = new Value('a', s.at(1), 0);
                run.place++;
                return FUEL;
            case 33:
                if (reg[s.at(0)].sort != 'a') return UNDEFINED;
                run.function = reg[s.at(0)].x;
                run.place = 0;
                reg[1] = behind;
                return FUEL;
            default:
                if (!reg[10].isNumber()) return UNDEFINED;
                run.prints.add(reg[10].x);
                run.place++;
                return FUEL;
        }
    }

    private static int reckon(int n, int x, int y) {
        return switch (n) {
            case 0, 10 -> x + y;
            case 1 -> x - y;
            case 2, 11 -> x & y;
            case 3, 12 -> x | y;
            case 4, 13 -> x ^ y;
            case 5, 16 -> x << y;
            case 6, 17 -> x >>> y;
            case 7, 18 -> x >> y;
            case 8, 14 -> x < y ? 1 : 0;
            default -> Integer.compareUnsigned(x, y) < 0 ? 1 : 0;
        };
    }

    private static boolean decide(int n, int x, int y) {
        return switch (n) {
            case 22 -> x == y;
            case 23 -> x != y;
            case 24 -> x < y;
            case 25 -> x >= y;
            case 26 -> Integer.compareUnsigned(x, y) < 0;
            default -> Integer.compareUnsigned(x, y) >= 0;
        };
    }

    private Run runImage(int fuel) {
        Run run = new Run();
        run.pc = imageAddress[imageBody[0]];
        run.how = FUEL;
        while (run.steps < fuel) {
            int how = stepImage(run);
            run.registers[0] = 0;
            if (how == UNDEFINED) {
                run.how = how;
                break;
            }
            run.steps++;
            if (run.pc == 0) {
                run.how = ENDS;
                break;
            }
        }
        return run;
    }

    private static int number(String bits) {
        return (int) Long.parseLong(bits, 2);
    }

    private static int signed(String bits) {
        return number(bits) - (bits.charAt(0) == '1' ? 1 << bits.length() : 0);
    }

    private int stepImage(Run run) {
        long i = ((long) run.pc - 4096) / 4;
        if (run.pc < 4096 || run.pc % 4 != 0 || i >= words.size()) return UNDEFINED;
        String w = bits(words.get((int) i), 32);
        int[] reg = run.registers;
        int rs2 = number(w.substring(7, 12));
        int x = reg[number(w.substring(12, 17))];
        int f3 = number(w.substring(17, 20));
        int rd = number(w.substring(20, 25));
        boolean other = w.charAt(1) == '1';
        int next = run.pc + 4;
        switch (w.substring(25)) {
            case "0110011": reg[rd] = alu(f3, other, x, reg[rs2]); break;
            case "0010011": reg[rd] = alu(f3, other && f3 == 5, x, signed(w.substring(0, 12))); break;
            case "0110111": reg[rd] = number(w.substring(0, 20)) << 12; break;
            case "0000011":
            case "0100011":
                boolean loads = w.charAt(26) == '0';
                int at = x + signed(loads ? w.substring(0, 12) : w.substring(0, 7) + w.substring(20, 25));
                if (at % 4 != 0 || at < 65536 || at >= 65792) return UNDEFINED;
                if (loads) reg[rd] = run.memory[(at - 65536) / 4];
                else run.memory[(at - 65536) / 4] = reg[rs2];
                break;
            case "1100011":
                if (compare(f3, x, reg[rs2])) {
                    next = run.pc + signed(w.charAt(0) + w.substring(24, 25) + w.substring(1, 7)
                        + w.substring(20, 24) + "0");
                }
                break;
            case "1101111":
                reg[rd] = run.pc + 4;
                next = run.pc + signed(w.charAt(0) + w.substring(12, 20) + w.charAt(11)
                    + w.substring(1, 11) + "0");
                break;
            case "1100111":
                reg[rd] = run.pc + 4;
                next = x + signed(w.substring(0, 12));
                next -= next & 1;
                break;
            case "1110011": run.prints.add(reg[10]); break;
            default: throw new AssertionError(w);
        }
        run.pc = next;
        return FUEL;
    }

    private static int alu(int f3, boolean other, int x, int y) {
        int[] plain = {0, 5, 8, 9, 4, 6, 3, 2};
        return reckon(other ? (f3 == 0 ? 1 : 7) : plain[f3], x, y);
    }

    private static boolean compare(int f3, int x, int y) {
        int[] n = {22, 23, 0, 0, 24, 25, 26, 27};
        return decide(n[f3], x, y);
    }

    int ran(int which, int what) {
        if (which < 0 || which > 1 || runs[which] == null) return -1;
        Run r = runs[which];
        boolean nowhere = which == 0 && r.how == ENDS;
        return switch (what) {
            case 0 -> r.how;
            case 1 -> r.steps;
            case 2 -> r.prints.size();
            case 3 -> which == 1 ? r.pc : nowhere ? -1 : r.function;
            case 4 -> which == 1 || nowhere ? -1 : r.place;
            default -> -1;
        };
    }

    int printed(int which, int i) {
        if (which < 0 || which > 1 || runs[which] == null || i < 0 || i >= 200) return 0;
        return i < runs[which].prints.size() ? runs[which].prints.get(i) : 0;
    }

    int register(int which, int k) {
        if (which < 0 || which > 1 || runs[which] == null || k < 0 || k > 31) return 0;
        return runs[which].registers[k];
    }

    int memory(int which, int k) {
        if (which < 0 || which > 1 || runs[which] == null || k < 0 || k > 63) return 0;
        return runs[which].memory[k];
    }

    int count(int what) {
        boolean has = words != null;
        switch (what) {
            case 0: return functions.size();
            case 1: return total();
            case 2:
                int classes = 0;
                for (int f = 0; f < functions.size(); f++) classes += leastOfClass(f) == f ? 1 : 0;
                return classes;
            case 3: return has ? words.size() : 0;
            case 4:
                int bodies = 0;
                for (int f = 0; has && f < imageBody.length; f++) bodies += imageBody[f] == f ? 1 : 0;
                return bodies;
            case 5: return has ? routines.size() : 0;
            case 6:
                int saves = 0;
                for (Routine r : routines) saves += r.saves;
                return saves;
            default: return -1;
        }
    }
}
