/** The sentences of the promises 15 to 17: would, triple, doomed. */
final class WhatIfSentences {
    private static final int MAX = Integer.MAX_VALUE, MIN = Integer.MIN_VALUE;

    private final Due due;

    WhatIfSentences(Due due) {
        this.due = due;
    }

    void run() {
        would();
        wouldOfNoTransaction();
        wouldOfOneThatIsNotActive();
        tripleWithTheLowestP();
        tripleWithTheLowestA();
        tripleWithTheLowestC();
        tripleOfTheLastOnes();
        tripleParts();
        tripleOfNoTransaction();
        tripleOutOfRange();
        tripleOfOneThatIsNotActive();
        tripleOfOneThatIsNotRefused();
        doomed();
        doomedByEachRule();
        doomedOutOfRange();
        nothingChanges();
    }

    /** 0 and 1 have an edge each way; 2 has written what 0 has written; 3 has done nothing. */
    private static SkewEdges four() {
        SkewEdges x = new SkewEdges();
        for (int number = 0; number < 4; number++) {
            x.begin();
        }
        x.read(0, 0);
        x.read(1, 1);
        x.write(0, 1, 1);
        x.write(1, 0, 1);
        x.write(2, 1, 1);
        return x;
    }

    private void would() {
        due.holds("Promise 15", "`int would(int transaction)`: Tells how a commit would end.");
        SkewEdges x = four();
        for (int number = 0; number < 4; number++) {
            due.is("would(" + number + "), nothing is committed", x.would(number), 0);
        }
        x.commit(0);
        due.holds("Promise 15", "Returns 0, or the reason, 1 or 2;");
        due.is("would(1)", x.would(1), 2);
        due.is("would(2)", x.would(2), 1);
        due.is("would(3)", x.would(3), 0);
        x.rule(3);
        due.is("would(1) by rule 3", x.would(1), 0);
        due.is("would(2) by rule 3", x.would(2), 1);
        x.write(1, 1, 5);
        due.is("would(1), both reasons", x.would(1), 1);
        x.rule(0);
        due.is("would(1), both reasons", x.would(1), 1);
        due.is("commit(1)", x.commit(1), 1);
    }

    private void wouldOfNoTransaction() {
        due.holds("Promise 15", "NO_SUCH if there is no such transaction;");
        SkewEdges x = new SkewEdges();
        due.is("would(0) without transactions", x.would(0), -1);
        x.begin();
        for (int none : new int[] {-1, 1, 12, 32, MAX, MIN}) {
            due.is("would(" + none + ")", x.would(none), -1);
        }
    }

    private void wouldOfOneThatIsNotActive() {
        due.holds("Promise 15", "NOT_POSSIBLE if it is not active.");
        SkewEdges x = four();
        x.commit(0);
        x.commit(1);
        x.abort(3);
        due.is("would(0), committed", x.would(0), -5);
        due.is("would(1), refused", x.would(1), -5);
        due.is("would(3), aborted", x.would(3), -5);
    }

    /** Rule 0, and as many transactions as are given; edges are made by edge(). */
    private static SkewEdges some(int many) {
        SkewEdges x = new SkewEdges();
        x.rule(0);
        for (int number = 0; number < many; number++) {
            x.begin();
        }
        return x;
    }

    /** Makes an edge over a key that nobody else touches. */
    private static void edge(SkewEdges x, int key, int from, int to) {
        x.read(from, key);
        x.write(to, key, 1);
    }

    private void isTriple(SkewEdges x, int transaction, int a, int p, int c) {
        due.is("triple(" + transaction + ", 0), A", x.triple(transaction, 0), a);
        due.is("triple(" + transaction + ", 1), P", x.triple(transaction, 1), p);
        due.is("triple(" + transaction + ", 2), C", x.triple(transaction, 2), c);
    }

    private void tripleWithTheLowestP() {
        due.holds("Promise 16", "`int triple(int transaction, int what)`: Returns the triple for which a commit would be "
            + "refused with the reason 2: of several the one with the lowest P,");
        SkewEdges x = some(6);
        edge(x, 0, 4, 5);
        edge(x, 1, 5, 3);
        edge(x, 2, 5, 0);
        edge(x, 3, 3, 1);
        for (int number : new int[] {0, 1, 3, 4}) {
            x.commit(number);
        }
        isTriple(x, 5, 5, 3, 1);
        SkewEdges y = some(6);
        edge(y, 0, 0, 1);
        edge(y, 1, 5, 2);
        edge(y, 2, 2, 3);
        edge(y, 3, 1, 5);
        for (int number = 0; number < 4; number++) {
            y.commit(number);
        }
        isTriple(y, 5, 0, 1, 5);
    }

    private void tripleWithTheLowestA() {
        due.holds("Promise 16", "of these with the lowest A,");
        SkewEdges x = some(6);
        edge(x, 0, 3, 5);
        edge(x, 1, 2, 5);
        edge(x, 2, 4, 5);
        edge(x, 3, 5, 1);
        for (int number = 0; number < 5; number++) {
            x.commit(number);
        }
        isTriple(x, 5, 2, 5, 1);
        SkewEdges y = some(6);
        edge(y, 0, 1, 4);
        edge(y, 1, 0, 4);
        edge(y, 2, 4, 3);
        edge(y, 3, 4, 2);
        edge(y, 4, 5, 4);
        y.rule(3);
        for (int number : new int[] {0, 2, 3, 4}) {
            y.commit(number);
        }
        y.rule(0);
        isTriple(y, 1, 1, 4, 2);
        y.commit(5);
        isTriple(y, 1, 1, 4, 2);
    }

    private void tripleWithTheLowestC() {
        due.holds("Promise 16", "then with the lowest C.");
        SkewEdges x = some(6);
        edge(x, 0, 1, 5);
        edge(x, 1, 5, 4);
        edge(x, 2, 5, 2);
        edge(x, 3, 5, 3);
        for (int number = 0; number < 5; number++) {
            x.commit(number);
        }
        isTriple(x, 5, 1, 5, 2);
        x.rule(1);
        isTriple(x, 5, -6, -6, -6);
        SkewEdges y = some(6);
        edge(y, 0, 1, 5);
        edge(y, 1, 5, 4);
        edge(y, 2, 5, 2);
        edge(y, 3, 5, 3);
        y.rule(1);
        y.commit(3);
        y.commit(1);
        y.commit(2);
        y.commit(4);
        isTriple(y, 5, 1, 5, 3);
    }

    private void tripleOfTheLastOnes() {
        due.holds("Promise 16", "Returns the triple for which a commit would be refused with the reason 2:");
        SkewEdges x = some(12);
        edge(x, 0, 10, 11);
        edge(x, 1, 11, 9);
        x.commit(9);
        x.commit(10);
        isTriple(x, 11, 10, 11, 9);
        SkewEdges y = some(12);
        edge(y, 0, 9, 10);
        edge(y, 1, 10, 11);
        y.commit(11);
        y.commit(10);
        y.rule(1);
        isTriple(y, 9, 9, 10, 11);
    }

    private void tripleParts() {
        due.holds("Promise 16", "- `what`: 0 A, 1 P, 2 C");
        SkewEdges x = some(3);
        edge(x, 0, 2, 0);
        edge(x, 1, 0, 1);
        x.commit(1);
        x.commit(0);
        due.holds("Promise 16", "Returns the transaction;");
        due.is("triple(2, 0), A", x.triple(2, 0), 2);
        due.is("triple(2, 1), P", x.triple(2, 1), 0);
        due.is("triple(2, 2), C", x.triple(2, 2), 1);
    }

    private void tripleOfNoTransaction() {
        due.holds("Promise 16", "NO_SUCH if there is no such transaction;");
        SkewEdges x = new SkewEdges();
        due.is("triple(0, 0) without transactions", x.triple(0, 0), -1);
        x.begin();
        for (int none : new int[] {-1, 1, 12, 32, MAX, MIN}) {
            for (int what = -1; what <= 3; what++) {
                due.is("triple(" + none + ", " + what + ")", x.triple(none, what), -1);
            }
        }
    }

    private void tripleOutOfRange() {
        due.holds("Promise 16", "BAD_VALUE if what is out of range;");
        SkewEdges x = new SkewEdges();
        x.begin();
        x.begin();
        x.begin();
        x.commit(1);
        x.abort(2);
        for (int what : new int[] {-1, 3, 4, 32, MAX, MIN}) {
            due.is("triple(0, " + what + ")", x.triple(0, what), -2);
            due.is("triple(1, " + what + "), committed", x.triple(1, what), -2);
            due.is("triple(2, " + what + "), aborted", x.triple(2, what), -2);
        }
        due.is("triple(0, 0), the smallest", x.triple(0, 0), -6);
        due.is("triple(0, 2), the largest", x.triple(0, 2), -6);
    }

    private void tripleOfOneThatIsNotActive() {
        due.holds("Promise 16", "NOT_POSSIBLE if it is not active;");
        SkewEdges x = four();
        x.commit(0);
        due.is("triple(1, 0)", x.triple(1, 0), 0);
        x.commit(1);
        x.abort(3);
        for (int what = 0; what < 3; what++) {
            due.is("triple(0, " + what + "), committed", x.triple(0, what), -5);
            due.is("triple(1, " + what + "), refused", x.triple(1, what), -5);
            due.is("triple(3, " + what + "), aborted", x.triple(3, what), -5);
        }
    }

    private void tripleOfOneThatIsNotRefused() {
        due.holds("Promise 16", "NONE if it would not be refused with this reason.");
        SkewEdges x = four();
        isTriple(x, 1, -6, -6, -6);
        x.commit(0);
        isTriple(x, 2, -6, -6, -6);
        isTriple(x, 3, -6, -6, -6);
        isTriple(x, 1, 0, 1, 0);
        x.rule(3);
        isTriple(x, 1, -6, -6, -6);
        x.rule(0);
        x.write(1, 1, 1);
        due.is("would(1), both reasons", x.would(1), 1);
        isTriple(x, 1, -6, -6, -6);
    }

    private void doomed() {
        due.holds("Promise 17", "`int doomed(int rule)`: Returns the active transactions, as a set, each of which would be "
            + "refused if it was committed now by another rule.");
        SkewEdges x = four();
        due.is("doomed(0), nothing is committed", x.doomed(0), 0);
        x.commit(0);
        due.holds("Promise 17", "Returns the set;");
        due.is("doomed(0)", x.doomed(0), 6);
        due.is("doomed(3)", x.doomed(3), 4);
        x.abort(1);
        due.is("doomed(0), active ones alone", x.doomed(0), 4);
        x.commit(2);
        due.is("doomed(0), one was refused", x.doomed(0), 0);
        SkewEdges y = some(12);
        for (int number = 0; number < 12; number++) {
            y.write(number, 15, 1);
        }
        y.commit(5);
        due.is("doomed(3) of twelve", y.doomed(3), 4095 - 32);
    }

    private void doomedByEachRule() {
        due.holds("Promise 17", "- `rule`: 0 to 3");
        SkewEdges x = new SkewEdges();
        for (int number = 0; number < 9; number++) {
            x.begin();
        }
        edge(x, 0, 0, 1);
        edge(x, 1, 1, 2);
        edge(x, 2, 3, 4);
        edge(x, 3, 4, 5);
        edge(x, 4, 6, 7);
        edge(x, 5, 7, 8);
        x.write(3, 15, 1);
        for (int number : new int[] {2, 1, 5, 4, 7, 8}) {
            due.is("commit(" + number + ")", x.commit(number), 0);
        }
        for (int rule = 0; rule < 4; rule++) {
            x.rule(rule);
            due.is("doomed(0)", x.doomed(0), 1 | 8 | 64);
            due.is("doomed(1)", x.doomed(1), 1 | 8);
            due.is("doomed(2)", x.doomed(2), 8);
            due.is("doomed(3)", x.doomed(3), 0);
        }
    }

    private void doomedOutOfRange() {
        due.holds("Promise 17", "BAD_VALUE if rule is out of range.");
        SkewEdges x = four();
        x.commit(0);
        for (int rule : new int[] {-1, 4, 5, 32, MAX, MIN}) {
            due.is("doomed(" + rule + ")", x.doomed(rule), -2);
        }
        due.is("count(5)", x.count(5), 1);
    }

    private void nothingChanges() {
        due.holds("Texts", "nothing changes.");
        SkewEdges x = four();
        x.commit(0);
        SkewEdges like = four();
        like.commit(0);
        for (int number = 0; number < 4; number++) {
            x.would(number);
            x.triple(number, 0);
            x.doomed(number);
        }
        due.same("all", Answers.of(x), Answers.of(like));
        due.is("undo()", x.undo(), like.undo());
        due.same("all behind undo()", Answers.of(x), Answers.of(like));
    }
}
