/** A LinkPress and a PlainPress that get the same calls; every answer is compared. */
final class Pair {
    final LinkPress x = new LinkPress();
    private final PlainPress plain = new PlainPress();
    private final Checks checks;
    private final String name;

    Pair(Checks checks, String name) {
        this.checks = checks;
        this.name = name;
    }

    private int due(String call, int got, int want) {
        checks.due(name + ", " + call, got, want);
        return want;
    }

    int function() {
        return due("function()", x.function(), plain.function());
    }

    int put(int f, int number, int a, int b, int c) {
        return due("put(" + f + ", " + number + ", " + a + ", " + b + ", " + c + ")",
            x.put(f, number, a, b, c), plain.put(f, number, a, b, c));
    }

    int clear() {
        return due("clear()", x.clear(), plain.clear());
    }

    int press(boolean folds, boolean routines) {
        return due("press(" + folds + ", " + routines + ")", x.press(folds, routines),
            plain.press(folds, routines));
    }

    int run(int which, int fuel) {
        return due("run(" + which + ", " + fuel + ")", x.run(which, fuel), plain.run(which, fuel));
    }

    int count(int what) {
        return due("count(" + what + ")", x.count(what), plain.count(what));
    }

    void compareFunctions() {
        for (int f = -1; f <= 24; f++) {
            for (int what = -1; what <= 3; what++) {
                due("about(" + f + ", " + what + ")", x.about(f, what), plain.about(f, what));
            }
        }
        for (int what = -1; what <= 7; what++) {
            count(what);
        }
    }

    void compareImage() {
        for (int what = -1; what <= 7; what++) {
            count(what);
        }
        for (int f = -1; f <= 24; f++) {
            for (int what = -1; what <= 2; what++) {
                due("body(" + f + ", " + what + ")", x.body(f, what), plain.body(f, what));
            }
        }
        for (int i = -1; i <= plain.count(3); i++) {
            due("word(" + i + ")", x.word(i), plain.word(i));
        }
        for (int k = -1; k <= plain.count(5); k++) {
            for (int what = -1; what <= 4; what++) {
                due("routine(" + k + ", " + what + ")", x.routine(k, what), plain.routine(k, what));
            }
            for (int i = -1; i <= Math.max(plain.routine(k, 1), 0); i++) {
                for (int what = -1; what <= 3; what++) {
                    due("occurrence(" + k + ", " + i + ", " + what + ")",
                        x.occurrence(k, i, what), plain.occurrence(k, i, what));
                }
            }
        }
    }

    void compareRuns() {
        for (int which = -1; which <= 2; which++) {
            for (int what = -1; what <= 5; what++) {
                due("ran(" + which + ", " + what + ")", x.ran(which, what), plain.ran(which, what));
            }
            for (int i = -1; i <= Math.min(plain.ran(which, 2), 201); i++) {
                due("printed(" + which + ", " + i + ")", x.printed(which, i), plain.printed(which, i));
            }
            for (int k = -1; k <= 32; k++) {
                due("register(" + which + ", " + k + ")", x.register(which, k), plain.register(which, k));
            }
            for (int k = -1; k <= 64; k++) {
                due("memory(" + which + ", " + k + ")", x.memory(which, k), plain.memory(which, k));
            }
        }
    }
}
