import java.util.LinkedHashMap;
import java.util.Map;

/** Counts and prints the answers that are not the ones that are due. */
final class Checks {
    private static final int MOST_SHOWN = 50;

    private final String name;
    private final Map<String, Integer> ofSentence = new LinkedHashMap<>();
    private String sentence;
    private int made;
    private int wrong;

    Checks(String name) {
        this.name = name;
    }

    /** What is checked from here on is what this sentence of the document says. */
    void sentence(String quote) {
        sentence = quote;
        ofSentence.putIfAbsent(quote, 0);
    }

    /** What is checked from here on is of no sentence. */
    void noSentence() {
        sentence = null;
    }

    /** The sentences so far, each with how many checks were made of it. */
    Map<String, Integer> sentences() {
        return ofSentence;
    }

    void due(String call, long got, long want) {
        check(got == want, call, " answered ", got, ", due is ", want);
    }

    void holds(String what, boolean is) {
        check(is, "not so: ", what);
    }

    private void check(boolean is, Object... told) {
        made++;
        if (sentence != null) {
            ofSentence.merge(sentence, 1, Integer::sum);
        }
        if (!is) {
            wrong++;
            if (wrong <= MOST_SHOWN) {
                show(told);
            }
        }
    }

    private void show(Object... told) {
        StringBuilder line = new StringBuilder(name).append(": ");
        if (sentence != null) {
            line.append('"').append(sentence).append("\": ");
        }
        for (Object part : told) {
            line.append(part);
        }
        System.out.println(line);
    }

    void end() {
        System.out.println(name + ": " + made + " checks, " + wrong + " wrong");
        if (wrong != 0 || made == 0) {
            System.exit(1);
        }
    }
}
