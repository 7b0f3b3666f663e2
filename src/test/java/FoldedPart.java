/** III. FOLDED: which functions are TAKEN, which stand together, and whose BODY is whose. */
final class FoldedPart extends Part {
    FoldedPart(Checks checks) {
        super(checks);
    }

    void check() {
        taken();
        asManyInstructions();
        sameInstructions();
        callsAndTails();
        thoseOfAddr();
        coarsest();
        bodies();
        notFolded();
    }

    private void classes(String name, LinkPress x, int... least) {
        int classes = 0;
        for (int f = 0; f < least.length; f++) {
            due(name + ": about(" + f + ", 2)", x.about(f, 2), least[f]);
            classes += least[f] == f ? 1 : 0;
        }
        due(name + ": count(2)", x.count(2), classes);
    }

    private void takenOnes(String name, LinkPress x, int... taken) {
        for (int f = 0; f < taken.length; f++) {
            due(name + ": about(" + f + ", 1)", x.about(f, 1), taken[f]);
        }
    }

    private void taken() {
        sentence("TAKEN are the FUNCTIONS that an ADDR tells, of any FUNCTION.");
        takenOnes("by itself", program(f(i(RET)), f(i(ADDR, 6, 1))), 0, 1);
        takenOnes("by one that is never come to", program(f(i(RET), i(ADDR, 6, 0)), f(i(ADDR, 6, 2)), f(i(RET))),
            1, 0, 1);
        takenOnes("into register 0", program(f(i(ADDR, 0, 1)), f(i(RET))), 0, 1);
        takenOnes("a is no FUNCTION", program(f(i(ADDR, 1, 2)), f(i(RET)), f(i(RET))), 0, 0, 1);
        takenOnes("what is told otherwise", program(f(i(CALL, 1, 1, 1)), f(i(TAIL, 1, 2)), f(i(LUI, 6, 1)),
            f(i(ICALL, 1, 1)), f(i(JUMP, 1))), 0, 0, 0, 0, 0);
        LinkPress x = program(f(i(ADDR, 6, 23), i(ADDR, 6, 0), i(ADDR, 6, 2)));
        takenOnes("FUNCTION 0", x, 1);
        due("one that is not there", x.about(23, 1), NONE);
        for (int f = 1; f < 24; f++) {
            x.function();
            due("about(" + f + ", 1), new", x.about(f, 1), f == 2 || f == 23 ? 1 : 0);
        }
        x.clear();
        x.function();
        due("no longer, when it is cleared", x.about(0, 1), 0);
    }

    private void asManyInstructions() {
        sentence("A CONGRUENCE: FUNCTIONS that stand together have as many INSTRUCTIONS,");
        classes("empty ones", functions(3), 0, 0, 0);
        classes("an empty one and others", program(f(), f(i(RET)), f(i(RET)), f(), f(i(RET), i(RET))),
            0, 1, 1, 0, 4);
        LinkPress x = program(times(40, i(PRINT)), times(39, i(PRINT)));
        classes("40 and 39", x, 0, 1);
        x.put(1, PRINT, 0, 0, 0);
        classes("40 and 40", x, 0, 0);
        LinkPress y = program(f(i(CALL, 1), i(RET)), f(i(CALL, 0), i(RET)));
        classes("two", y, 0, 0);
        y.put(1, RET, 0, 0, 0);
        classes("one more", y, 0, 1);
    }

    private void sameInstructions() {
        sentence("the same ones one by one with the same a, b, c that are told,");
        for (int n = ADD; n <= PRINT; n++) {
            for (int k = 0; k < 3; k++) {
                int[] other = i(n, 0, 0, 0);
                other[1 + k] = 2;
                // FUNCTION 2 is not there for CALL and TAIL; ADDR of another is another
                boolean apart = k < toldBy(n);
                classes("another of a, b, c: " + n, program(f(i(n), i(RET)), f(other, i(RET))), 0, apart ? 1 : 0);
            }
        }
        for (int n = ADD; n < PRINT; n++) {
            classes("another number: " + n, program(f(i(n)), f(i(n + 1))), 0, 1);
        }
        classes("another order", program(f(i(PRINT), i(RET)), f(i(RET), i(PRINT))), 0, 1);
        classes("another last one", program(f(i(PRINT), i(RET)), f(i(PRINT), i(PRINT))), 0, 1);
        classes("another of 40", program(join(times(39, i(PRINT)), f(i(JUMP, 1))),
            join(times(39, i(PRINT)), f(i(JUMP, 2)))), 0, 1);
        classes("least and most", program(f(i(ADDI, 6, 6, -2048)), f(i(ADDI, 6, 6, 2047)), f(i(LUI, 6, 1048575)),
            f(i(LUI, 6, 0)), f(i(ADDI, 6, 6, 2047))), 0, 1, 2, 3, 1);
    }

    private void callsAndTails() {
        sentence("but that FUNCTIONS that CALL, TAIL tell need but stand together");
        for (int n : new int[] {CALL, TAIL}) {
            classes("two that are alike", program(f(i(n, 2)), f(i(n, 3)), f(i(RET)), f(i(RET))), 0, 0, 2, 2);
            classes("two that are not", program(f(i(n, 2)), f(i(n, 3)), f(i(RET)), f(i(PRINT))), 0, 1, 2, 3);
            classes("itself and another", program(f(i(n, 0)), f(i(n, 2)), f(i(RET))), 0, 1, 2);
            classes("by another that is called", program(f(i(n, 2)), f(i(n, 3)), f(i(n, 4)), f(i(n, 5)), f(i(RET)),
                f(i(RET))), 0, 0, 2, 2, 4, 4);
            classes("by another that is not", program(f(i(n, 2)), f(i(n, 3)), f(i(n, 4)), f(i(n, 5)), f(i(RET)),
                f(i(PRINT))), 0, 1, 2, 3, 4, 5);
        }
        classes("CALL is not TAIL", program(f(i(CALL, 2)), f(i(TAIL, 2)), f(i(RET))), 0, 1, 2);
    }

    private void thoseOfAddr() {
        sentence("(those of ADDR are the same; one that there is not stands together with itself alone).");
        classes("ADDR of two that are alike", program(f(i(ADDR, 6, 2)), f(i(ADDR, 6, 3)), f(i(RET)), f(i(RET))),
            0, 1, 2, 2);
        classes("ADDR of one", program(f(i(ADDR, 6, 2)), f(i(ADDR, 6, 2)), f(i(RET))), 0, 0, 2);
        classes("ADDR of itself", program(f(i(ADDR, 6, 0)), f(i(ADDR, 6, 1))), 0, 1);
        classes("ADDR of one that there is not", program(f(i(ADDR, 6, 23)), f(i(ADDR, 6, 23))), 0, 0);
        for (int n : new int[] {CALL, TAIL}) {
            LinkPress x = program(f(i(n, 2)), f(i(n, 3)), f(i(n, 2)));
            due("2 is there, 3 is not", x.about(1, 2), 1);
            classes("both are not there", program(f(i(n, 22)), f(i(n, 23))), 0, 1);
            LinkPress y = program(f(i(n, 2)), f(i(n, 2)), f(i(n, 23)), f(i(n, 23)));
            classes("the same that is not there", y, 0, 0, 2, 2);
            LinkPress z = program(f(i(n, 2)), f(i(n, 3)));
            classes("not yet", z, 0, 1);
            z.function();
            classes("one of them is there now", z, 0, 1, 2);
            z.function();
            classes("both are there now", z, 0, 0, 2, 2);
        }
    }

    private void coarsest() {
        sentence("The CLASSES are the coarsest one.");
        due("without FUNCTIONS", new LinkPress().count(2), 0);
        classes("each calls itself", program(f(i(CALL, 0)), f(i(CALL, 1))), 0, 0);
        LinkPress x = program(f(i(CALL, 0), i(RET)), f(i(CALL, 1), i(RET)), f(i(CALL, 3), i(RET)),
            f(i(CALL, 2), i(RET)));
        classes("two that call one another", x, 0, 0, 0, 0);
        x.put(3, PRINT, 0, 0, 0);
        classes("one is longer, one calls it", x, 0, 0, 2, 3);
        LinkPress ring = functions(24);
        LinkPress chain = functions(24);
        for (int f = 0; f < 24; f++) {
            ring.put(f, TAIL, (f + 1) % 24, 0, 0);
            chain.put(f, f == 23 ? RET : TAIL, (f + 1) % 24, 0, 0);
        }
        due("a ring of 24", ring.count(2), 1);
        due("its last", ring.about(23, 2), 0);
        due("a chain of 24 is parted from its end on", chain.count(2), 24);
        for (int f = 0; f < 24; f++) {
            due("about(" + f + ", 2) of the chain", chain.about(f, 2), f);
        }
        // two rings, of two and of three, that differ at no place
        classes("rings of two and three", program(f(i(TAIL, 1)), f(i(TAIL, 0)), f(i(TAIL, 3)), f(i(TAIL, 4)),
            f(i(TAIL, 2))), 0, 0, 0, 0, 0);
    }

    private void bodiesAre(String name, LinkPress x, int... body) {
        holds(name + ": it is pressed", x.press(true, false) > 0);
        int bodies = 0;
        for (int f = 0; f < body.length; f++) {
            due(name + ": body(" + f + ", 0)", x.body(f, 0), body[f]);
            bodies += body[f] == f ? 1 : 0;
        }
        due(name + ": count(4)", x.count(4), bodies);
    }

    private void bodies() {
        sentence("BODY of a FUNCTION: of a TAKEN one itself; of others the least TAKEN one of its CLASS, "
            + "without one the least of the CLASS.");
        int[][] ret = f(i(RET));
        bodiesAre("none TAKEN", program(ret, ret, ret), 0, 0, 0);
        bodiesAre("the last TAKEN", program(ret, ret, ret, f(i(ADDR, 6, 2), i(RET))), 2, 2, 2, 3);
        bodiesAre("two TAKEN", program(ret, ret, ret, ret, f(i(ADDR, 6, 2), i(ADDR, 6, 1), i(RET))),
            1, 1, 2, 1, 4);
        bodiesAre("the first and another", program(ret, ret, ret, f(i(ADDR, 6, 2), i(ADDR, 6, 0), i(RET))),
            0, 0, 2, 3);
        bodiesAre("all TAKEN", program(ret, ret, f(i(ADDR, 6, 0), i(ADDR, 6, 1), i(RET))), 0, 1, 2);
        // TAKEN ones of another CLASS are no matter
        bodiesAre("of another CLASS", program(ret, f(i(PRINT), i(RET)), ret, f(i(ADDR, 6, 1), i(RET))),
            0, 1, 0, 3);
        // they stand together though one is TAKEN: what calls them does too
        bodiesAre("what calls them", program(f(i(TAIL, 2)), f(i(TAIL, 3)), ret, ret, f(i(ADDR, 6, 3), i(RET))),
            0, 0, 3, 3, 4);
    }

    private void notFolded() {
        sentence("(Not FOLDED: each is its own.)");
        LinkPress x = program(f(i(RET)), f(i(RET)), f(i(ADDR, 6, 1), i(RET)));
        for (int round = 0; round < 2; round++) {
            due("press(true, true)", x.press(true, true), 4);
            due("body(0, 0), FOLDED", x.body(0, 0), 1);
            due("press(false, true)", x.press(false, true), 5);
            for (int f = 0; f < 3; f++) {
                due("body(" + f + ", 0)", x.body(f, 0), f);
                due("body(" + f + ", 1)", x.body(f, 1), 4096 + 4 * f);
            }
            due("count(4)", x.count(4), 3);
            due("the CLASSES stay", x.count(2), 2);
        }
    }
}
