import java.util.ArrayList;
import java.util.List;
import java.util.function.ToIntFunction;

/**
 * A LinkPress and a PlainPress that get the same calls; every answer is compared. The document
 * allows an object 512 calls: before a 513th, what changed it is done again on a new one.
 */
final class Pair {
    static final int MOST_CALLS = 512;

    private LinkPress x = new LinkPress();
    private final List<ToIntFunction<LinkPress>> changes = new ArrayList<>();
    private int calls;
    private final PlainPress plain = new PlainPress();
    private final Checks checks;
    private final String name;

    Pair(Checks checks, String name) {
        this.checks = checks;
        this.name = name;
    }

    /** A call that changes nothing. */
    int ask(ToIntFunction<LinkPress> call) {
        if (calls == MOST_CALLS) {
            x = new LinkPress();
            for (ToIntFunction<LinkPress> change : changes) {
                change.applyAsInt(x);
            }
            calls = changes.size();
        }
        calls++;
        return call.applyAsInt(x);
    }

    int changes() {
        return changes.size();
    }

    /** One call less than an object may get is for changes, so that there is one to ask. */
    private int change(ToIntFunction<LinkPress> call) {
        if (changes.size() == MOST_CALLS - 1) {
            throw new IllegalStateException("too many changes of one object");
        }
        int answer = ask(call);
        changes.add(call);
        return answer;
    }

    private int due(String call, int got, int want) {
        checks.due(name + ", " + call, got, want);
        return want;
    }

    int function() {
        return due("function()", change(LinkPress::function), plain.function());
    }

    int put(int f, int number, int a, int b, int c) {
        return due("put(" + f + ", " + number + ", " + a + ", " + b + ", " + c + ")",
            change(o -> o.put(f, number, a, b, c)), plain.put(f, number, a, b, c));
    }

    int clear() {
        return due("clear()", change(LinkPress::clear), plain.clear());
    }

    int press(boolean folds, boolean routines) {
        return due("press(" + folds + ", " + routines + ")", change(o -> o.press(folds, routines)),
            plain.press(folds, routines));
    }

    int run(int which, int fuel) {
        return due("run(" + which + ", " + fuel + ")", change(o -> o.run(which, fuel)), plain.run(which, fuel));
    }

    int about(int f, int what) {
        return due("about(" + f + ", " + what + ")", ask(o -> o.about(f, what)), plain.about(f, what));
    }

    int body(int f, int what) {
        return due("body(" + f + ", " + what + ")", ask(o -> o.body(f, what)), plain.body(f, what));
    }

    int routine(int k, int what) {
        return due("routine(" + k + ", " + what + ")", ask(o -> o.routine(k, what)), plain.routine(k, what));
    }

    int occurrence(int k, int i, int what) {
        return due("occurrence(" + k + ", " + i + ", " + what + ")", ask(o -> o.occurrence(k, i, what)),
            plain.occurrence(k, i, what));
    }

    int word(int i) {
        return due("word(" + i + ")", ask(o -> o.word(i)), plain.word(i));
    }

    int ran(int which, int what) {
        return due("ran(" + which + ", " + what + ")", ask(o -> o.ran(which, what)), plain.ran(which, what));
    }

    int printed(int which, int i) {
        return due("printed(" + which + ", " + i + ")", ask(o -> o.printed(which, i)), plain.printed(which, i));
    }

    int register(int which, int k) {
        return due("register(" + which + ", " + k + ")", ask(o -> o.register(which, k)), plain.register(which, k));
    }

    int memory(int which, int k) {
        return due("memory(" + which + ", " + k + ")", ask(o -> o.memory(which, k)), plain.memory(which, k));
    }

    int count(int what) {
        return due("count(" + what + ")", ask(o -> o.count(what)), plain.count(what));
    }

    void compareFunctions() {
        for (int f = -1; f <= 24; f++) {
            for (int what = -1; what <= 3; what++) {
                about(f, what);
            }
        }
        for (int what = -1; what <= 7; what++) {
            count(what);
        }
    }

    void compareImage() {
        for (int what = -1; what <= 7; what++) {
            count(what);
        }
        for (int f = -1; f <= 24; f++) {
            for (int what = -1; what <= 2; what++) {
                body(f, what);
            }
        }
        for (int i = -1; i <= plain.count(3); i++) {
            word(i);
        }
        for (int k = -1; k <= plain.count(5); k++) {
            compareRoutine(k);
        }
    }

    private void compareRoutine(int k) {
        for (int what = -1; what <= 4; what++) {
            routine(k, what);
        }
        for (int i = -1; i <= Math.max(plain.routine(k, 1), 0); i++) {
            for (int what = -1; what <= 3; what++) {
                occurrence(k, i, what);
            }
        }
    }

    void compareRuns() {
        for (int which = -1; which <= 2; which++) {
            for (int what = -1; what <= 5; what++) {
                ran(which, what);
            }
            for (int i = -1; i <= Math.min(plain.ran(which, 2), 201); i++) {
                printed(which, i);
            }
            for (int k = -1; k <= 32; k++) {
                register(which, k);
            }
            for (int k = -1; k <= 64; k++) {
                memory(which, k);
            }
        }
    }
}
