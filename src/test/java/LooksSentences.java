/** The sentences of the promises 8 to 14: value, of, edge, over, count, order, sees. */
final class LooksSentences {
    private static final int MAX = Integer.MAX_VALUE, MIN = Integer.MIN_VALUE;

    private final Due due;

    LooksSentences(Due due) {
        this.due = due;
    }

    void run() {
        value();
        valueOfNoKey();
        ofStateAndMoments();
        ofReadAndWritten();
        ofEdges();
        ofWhyItWasAborted();
        ofSnapshot();
        ofNoTransaction();
        ofOutOfRange();
        edge();
        edgeOfNoTransaction();
        overTheLowestKey();
        overOfNoTransaction();
        overWithoutAnEdge();
        countOfTransactions();
        countOfMomentAndRule();
        countOfEdgesAndTriples();
        countSerial();
        countOfPadAndHistory();
        countOutOfRange();
        order();
        orderOfNotSoMany();
        orderIfNotSerial();
        sees();
        seesItself();
        seesOfNoTransactionOrKey();
        seesNobody();
    }

    private void value() {
        due.holds("Promise 8", "`int value(int key)`: Returns the value of a key by its latest version.");
        SkewEdges x = new SkewEdges();
        for (int number = 0; number < 3; number++) {
            x.begin();
        }
        x.write(2, 0, 22);
        x.commit(2);
        due.is("value(0), one version", x.value(0), 22);
        x.begin();
        x.write(3, 0, 33);
        x.write(3, 0, 34);
        x.write(0, 15, 999);
        due.is("value(0), a second one is not committed", x.value(0), 22);
        x.commit(3);
        due.is("value(0), two versions", x.value(0), 34);
        x.write(1, 0, 11);
        due.is("commit(1), refused", x.commit(1), 1);
        due.is("value(0), by the latest one", x.value(0), 34);
        due.holds("Promise 8", "Returns the value;");
        due.is("value(15), nobody's", x.value(15), 0);
        x.commit(0);
        due.is("value(15), the largest", x.value(15), 999);
        x.begin();
        x.write(4, 15, 0);
        x.commit(4);
        due.is("value(15), 0 again", x.value(15), 0);
        due.is("value(0), the later versions are another key's", x.value(0), 34);
    }

    private void valueOfNoKey() {
        due.holds("Promise 8", "NO_SUCH if there is no such key.");
        SkewEdges x = new SkewEdges();
        for (int none : new int[] {-1, 16, 17, 32, MAX, MIN}) {
            due.is("value(" + none + ")", x.value(none), -1);
        }
        due.is("value(0), the first key", x.value(0), 0);
        due.is("value(15), the last key", x.value(15), 0);
    }

    private void ofStateAndMoments() {
        due.holds("Promise 9", "`int of(int transaction, int what)`: Returns something about a transaction.");
        due.is("of(0, 1) of the first one", oneCommitted().of(0, 1), 1);
        due.is("of(0, 2) of the first one", oneCommitted().of(0, 2), 2);
        due.holds("Promise 9", "- `what`: 0 whether it is active (0), committed (1) or aborted (2), 1 the moment of its "
            + "begin, 2 the moment of its commit (NONE),");
        SkewEdges x = new SkewEdges();
        x.begin();
        x.begin();
        x.commit(0);
        x.begin();
        x.abort(1);
        int[][] all = {{1, 1, 3}, {2, 2, -6}, {0, 4, -6}};
        for (int number = 0; number < 3; number++) {
            for (int what = 0; what < 3; what++) {
                due.is("of(" + number + ", " + what + ")", x.of(number, what), all[number][what]);
            }
        }
        due.holds("Promise 9", "Returns the number;");
        for (int number = 3; number < 12; number++) {
            x.begin();
            x.commit(number);
        }
        due.is("of(11, 1), the latest begin", x.of(11, 1), 21);
        due.is("of(11, 2), the latest commit", x.of(11, 2), 22);
    }

    private static SkewEdges oneCommitted() {
        SkewEdges x = new SkewEdges();
        x.begin();
        x.commit(0);
        return x;
    }

    private void ofReadAndWritten() {
        due.holds("Promise 9", "3 the keys that it has read, 4 the keys that it has written, as sets,");
        SkewEdges x = new SkewEdges();
        x.begin();
        due.is("of(0, 3), none", x.of(0, 3), 0);
        due.is("of(0, 4), none", x.of(0, 4), 0);
        x.read(0, 0);
        x.read(0, 15);
        x.write(0, 14, 1);
        x.write(0, 1, 1);
        x.read(0, 14);
        due.is("of(0, 3)", x.of(0, 3), 0x8001);
        due.is("of(0, 4)", x.of(0, 4), 0x4002);
        x.commit(0);
        due.is("of(0, 3), committed", x.of(0, 3), 0x8001);
        due.is("of(0, 4), committed", x.of(0, 4), 0x4002);
    }

    private void ofEdges() {
        due.holds("Promise 9", "5 the transactions to which it has an edge, 6 those that have an edge to it, as sets,");
        SkewEdges x = new SkewEdges();
        for (int number = 0; number < 12; number++) {
            x.begin();
        }
        x.read(0, 0);
        x.read(5, 0);
        x.read(11, 0);
        x.write(11, 0, 1);
        x.write(1, 0, 1);
        x.write(5, 0, 1);
        int[] from = {2 | 32 | 2048, 0, 0, 0, 0, 2 | 2048, 0, 0, 0, 0, 0, 2 | 32};
        int[] to = {0, 1 | 32 | 2048, 0, 0, 0, 1 | 2048, 0, 0, 0, 0, 0, 1 | 32};
        for (int number = 0; number < 12; number++) {
            due.is("of(" + number + ", 5)", x.of(number, 5), from[number]);
            due.is("of(" + number + ", 6)", x.of(number, 6), to[number]);
        }
        x.abort(5);
        due.is("of(5, 5), aborted", x.of(5, 5), 0);
        due.is("of(5, 6), aborted", x.of(5, 6), 0);
        due.is("of(0, 5), without the aborted one", x.of(0, 5), 2 | 2048);
        due.is("of(1, 6), without the aborted one", x.of(1, 6), 1 | 2048);
    }

    private void ofWhyItWasAborted() {
        due.holds("Promise 9", "7 why it was aborted, 0 to 2 (NONE if it was not),");
        SkewEdges x = new SkewEdges();
        for (int number = 0; number < 5; number++) {
            x.begin();
        }
        x.read(0, 0);
        x.write(0, 1, 1);
        x.read(1, 1);
        x.write(1, 0, 1);
        x.write(2, 1, 1);
        x.commit(0);
        x.commit(1);
        x.commit(2);
        x.abort(3);
        int[] why = {-6, 2, 1, 0, -6};
        for (int number = 0; number < 5; number++) {
            due.is("of(" + number + ", 7)", x.of(number, 7), why[number]);
        }
    }

    private void ofSnapshot() {
        due.holds("Promise 9", "8 whether its snapshot is safe, 0 to 2 (NONE if it has written a key, or is aborted)");
        SkewEdges x = new SkewEdges();
        x.begin();
        x.begin();
        x.read(0, 0);
        x.write(1, 0, 1);
        x.commit(1);
        x.begin();
        due.is("of(2, 8), not known", x.of(2, 8), 2);
        x.commit(0);
        due.is("of(2, 8), not safe", x.of(2, 8), 0);
        due.is("of(0, 8), safe", x.of(0, 8), 1);
        due.is("of(1, 8), it has written", x.of(1, 8), -6);
        x.abort(2);
        due.is("of(2, 8), aborted", x.of(2, 8), -6);
        x.begin();
        x.begin();
        due.is("of(3, 8), all have ended", x.of(3, 8), 1);
        due.is("of(4, 8), one is active", x.of(4, 8), 2);
        x.write(4, 1, 1);
        due.is("of(4, 8), it has written", x.of(4, 8), -6);
        x.undo();
        due.is("of(4, 8), it has not written", x.of(4, 8), 2);
        x.commit(4);
        due.is("of(4, 8), committed", x.of(4, 8), 2);
    }

    private void ofNoTransaction() {
        due.holds("Promise 9", "NO_SUCH if there is no such transaction;");
        SkewEdges x = new SkewEdges();
        due.is("of(0, 0) without transactions", x.of(0, 0), -1);
        x.begin();
        for (int none : new int[] {-1, 1, 11, 12, 32, MAX, MIN}) {
            for (int what = -1; what <= 9; what++) {
                due.is("of(" + none + ", " + what + ")", x.of(none, what), -1);
            }
        }
    }

    private void ofOutOfRange() {
        due.holds("Promise 9", "BAD_VALUE if what is out of range.");
        SkewEdges x = new SkewEdges();
        x.begin();
        x.abort(0);
        for (int what : new int[] {-1, 9, 10, 32, MAX, MIN}) {
            due.is("of(0, " + what + ")", x.of(0, what), -2);
        }
        due.is("of(0, 0), the smallest", x.of(0, 0), 2);
        due.is("of(0, 8), the largest", x.of(0, 8), -6);
    }

    private void edge() {
        due.holds("Promise 10", "`int edge(int from, int to)`: Tells whether there is an edge.");
        SkewEdges x = new SkewEdges();
        for (int number = 0; number < 12; number++) {
            x.begin();
        }
        x.read(11, 15);
        due.is("edge(11, 0), it has only read", x.edge(11, 0), 0);
        x.write(0, 15, 1);
        due.holds("Promise 10", "Returns 1 or 0;");
        due.is("edge(11, 0)", x.edge(11, 0), 1);
        due.is("edge(0, 11)", x.edge(0, 11), 0);
        due.is("edge(11, 11)", x.edge(11, 11), 0);
        x.read(11, 14);
        x.write(0, 14, 1);
        due.is("edge(11, 0) over two keys", x.edge(11, 0), 1);
        x.abort(0);
        due.is("edge(11, 0), aborted", x.edge(11, 0), 0);
    }

    private void edgeOfNoTransaction() {
        due.holds("Promise 10", "NO_SUCH if there is no such transaction.");
        SkewEdges x = new SkewEdges();
        due.is("edge(0, 0) without transactions", x.edge(0, 0), -1);
        x.begin();
        for (int none : new int[] {-1, 1, 12, 32, MAX, MIN}) {
            due.is("edge(" + none + ", 0)", x.edge(none, 0), -1);
            due.is("edge(0, " + none + ")", x.edge(0, none), -1);
            due.is("edge(" + none + ", " + none + ")", x.edge(none, none), -1);
        }
        x.abort(0);
        due.is("edge(0, 1), one aborted, one not there", x.edge(0, 1), -1);
        due.is("edge(0, 0), aborted", x.edge(0, 0), 0);
    }

    private void overTheLowestKey() {
        due.holds("Promise 11",
            "`int over(int from, int to)`: Returns the key with the lowest number for which there is an edge.");
        SkewEdges x = new SkewEdges();
        x.begin();
        x.begin();
        for (int key = 15; key >= 0; key--) {
            x.read(0, key);
            x.write(1, key, 1);
            due.is("over(0, 1) from the key " + key, x.over(0, 1), key);
        }
        due.holds("Promise 11", "Returns the key;");
        SkewEdges y = new SkewEdges();
        y.begin();
        y.begin();
        y.read(0, 0);
        y.read(0, 7);
        y.write(1, 1, 1);
        y.write(1, 7, 1);
        due.is("over(0, 1), lower keys only read, or only written", y.over(0, 1), 7);
        due.is("over(1, 0), the other way", y.over(1, 0), -6);
    }

    private void overOfNoTransaction() {
        due.holds("Promise 11", "NO_SUCH if there is no such transaction;");
        SkewEdges x = new SkewEdges();
        due.is("over(0, 0) without transactions", x.over(0, 0), -1);
        x.begin();
        for (int none : new int[] {-1, 1, 12, 32, MAX, MIN}) {
            due.is("over(" + none + ", 0)", x.over(none, 0), -1);
            due.is("over(0, " + none + ")", x.over(0, none), -1);
            due.is("over(" + none + ", " + none + ")", x.over(none, none), -1);
        }
    }

    private void overWithoutAnEdge() {
        due.holds("Promise 11", "NONE if there is no edge.");
        SkewEdges x = new SkewEdges();
        x.begin();
        x.begin();
        due.is("over(0, 1), nothing was read", x.over(0, 1), -6);
        x.read(0, 0);
        x.write(0, 0, 1);
        due.is("over(0, 0), itself", x.over(0, 0), -6);
        due.is("over(0, 1), nothing was written", x.over(0, 1), -6);
        x.write(1, 0, 1);
        due.is("over(0, 1)", x.over(0, 1), 0);
        x.abort(1);
        due.is("over(0, 1), aborted", x.over(0, 1), -6);
        x.commit(0);
        x.begin();
        x.write(2, 0, 1);
        due.is("over(0, 2), they don't overlap", x.over(0, 2), -6);
    }

    private void countOfTransactions() {
        due.holds("Promise 12",
            "- `what`: 0 transactions, 1 active ones, 2 committed ones, 3 aborted ones, as sets,");
        SkewEdges x = new SkewEdges();
        for (int number = 0; number < 12; number++) {
            x.begin();
        }
        due.is("count(1), all", x.count(1), 4095);
        x.commit(0);
        x.commit(11);
        x.abort(1);
        x.abort(10);
        due.holds("Promise 12", "Returns the number;");
        due.is("count(0), a number", x.count(0), 12);
        due.is("count(1)", x.count(1), 4095 - 1 - 2 - 1024 - 2048);
        due.is("count(2)", x.count(2), 2049);
        due.is("count(3)", x.count(3), 1026);
    }

    private void countOfMomentAndRule() {
        due.holds("Promise 12", "4 the latest moment, 5 RULE,");
        SkewEdges x = new SkewEdges();
        due.is("count(4) ahead of the first moment", x.count(4), 0);
        due.is("count(5) at first", x.count(5), 1);
        x.begin();
        due.is("count(4)", x.count(4), 1);
        x.commit(0);
        due.is("count(4)", x.count(4), 2);
        x.rule(0);
        due.is("count(5), the smallest", x.count(5), 0);
        x.rule(3);
        due.is("count(5), the largest", x.count(5), 3);
    }

    private void countOfEdgesAndTriples() {
        due.holds("Promise 12", "6 edges, 7 pivots of triples, as a set, 8 triples (each A, P and C),");
        SkewEdges x = new SkewEdges();
        due.is("count(6), none", x.count(6), 0);
        for (int number = 0; number < 12; number++) {
            x.begin();
            x.read(number, 3);
            x.read(number, 4);
            x.write(number, 3, 1);
            x.write(number, 4, 1);
            due.is("count(6), edges over two keys are one", x.count(6), number * (number + 1));
            due.is("count(7)", x.count(7), number == 0 ? 0 : (1 << number + 1) - 1);
            due.is("count(8)", x.count(8), (number + 1) * number * number);
        }
        x.abort(0);
        due.is("count(6), one aborted", x.count(6), 110);
        due.is("count(7), one aborted", x.count(7), 4094);
        due.is("count(8), one aborted", x.count(8), 1100);
    }

    private void countSerial() {
        due.holds("Promise 12", "9 whether all that is committed is serial (1 or 0),");
        SkewEdges x = new SkewEdges();
        due.is("count(9), nothing is committed", x.count(9), 1);
        x.rule(3);
        x.begin();
        x.begin();
        x.read(0, 0);
        x.read(1, 0);
        x.read(0, 1);
        x.write(1, 0, 1);
        x.write(0, 1, 1);
        x.commit(0);
        due.is("count(9), one is committed", x.count(9), 1);
        x.commit(1);
        due.is("count(9), two in a row", x.count(9), 1);
        x.undo();
        x.undo();
        x.read(1, 1);
        x.commit(0);
        due.is("count(9), an edge back, one is active", x.count(9), 1);
        x.commit(1);
        due.is("count(9), an edge back", x.count(9), 0);
    }

    private void countOfPadAndHistory() {
        due.holds("Promise 12", "10 the length of the pad, 11 how many changes can be undone");
        SkewEdges x = new SkewEdges();
        due.is("count(10), empty", x.count(10), 0);
        due.is("count(11), none", x.count(11), 0);
        for (int i = 1; i <= 80; i++) {
            x.put('b');
            due.is("count(10)", x.count(10), i);
        }
        x.put('b');
        due.is("count(10), full", x.count(10), 80);
        for (int i = 1; i <= 9; i++) {
            x.rule(0);
            due.is("count(11)", x.count(11), Math.min(i, 6));
        }
        x.undo();
        due.is("count(11)", x.count(11), 5);
    }

    private void countOutOfRange() {
        due.holds("Promise 12", "BAD_VALUE if what is out of range.");
        SkewEdges x = new SkewEdges();
        for (int what : new int[] {-1, 12, 13, 32, MAX, MIN}) {
            due.is("count(" + what + ")", x.count(what), -2);
        }
        due.holds("Promise 12", "`int count(int what)`: Returns a number.");
        due.is("count(0), the smallest", x.count(0), 0);
        due.is("count(11), the largest", x.count(11), 0);
    }

    private void order() {
        due.holds("Promise 13", "`int order(int place)`: Returns the transaction at a place of the order.");
        SkewEdges x = new SkewEdges();
        x.rule(3);
        for (int number = 0; number < 12; number++) {
            x.begin();
        }
        for (int number = 0; number < 11; number++) {
            x.read(number + 1, number);
            x.write(number, number, 1);
            x.commit(number);
        }
        due.is("commit(11)", x.commit(11), 0);
        due.holds("Promise 13", "- `place`: 0 for the first one");
        due.is("order(0), the first one", x.order(0), 11);
        due.holds("Promise 13", "Returns the transaction;");
        for (int place = 0; place < 12; place++) {
            due.is("order(" + place + ")", x.order(place), 11 - place);
        }
        due.is("order(0) again", x.order(0), 11);
    }

    private void orderOfNotSoMany() {
        due.holds("Promise 13", "NO_SUCH if not so many are committed, or place is below 0;");
        SkewEdges x = new SkewEdges();
        for (int place : new int[] {0, 1, -1, MAX, MIN}) {
            due.is("order(" + place + ") without transactions", x.order(place), -1);
        }
        x.begin();
        x.begin();
        x.begin();
        x.abort(0);
        due.is("order(0), none is committed", x.order(0), -1);
        x.commit(2);
        due.is("order(0)", x.order(0), 2);
        for (int place : new int[] {1, 2, 3, 12, 32, -1, MAX, MIN}) {
            due.is("order(" + place + ")", x.order(place), -1);
        }
        x.commit(1);
        due.is("order(1), the last one", x.order(1), 2);
        due.is("order(2)", x.order(2), -1);
        for (int number = 3; number < 12; number++) {
            x.begin();
            x.commit(number);
        }
        due.is("order(10), the last one", x.order(10), 11);
        due.is("order(11)", x.order(11), -1);
        due.is("order(12)", x.order(12), -1);
    }

    private void orderIfNotSerial() {
        due.holds("Promise 13", "NOT_POSSIBLE if all is not serial.");
        SkewEdges x = new SkewEdges();
        x.rule(3);
        x.begin();
        x.begin();
        x.begin();
        x.read(1, 0);
        x.read(2, 1);
        x.write(1, 1, 1);
        x.write(2, 0, 1);
        x.commit(0);
        x.commit(1);
        due.is("order(0), two in a row", x.order(0), 0);
        x.commit(2);
        for (int place = 0; place < 3; place++) {
            due.is("order(" + place + "), also if it is not one of the ring", x.order(place), -5);
        }
        due.is("order(3), not so many", x.order(3), -1);
        due.is("order(-1), below 0", x.order(-1), -1);
        x.undo();
        due.is("order(1), behind undo", x.order(1), 1);
    }

    private void sees() {
        due.holds("Promise 14", "`int sees(int transaction, int key)`: Returns the transaction that wrote the version of a "
            + "key that another transaction would see now, if it read it.");
        SkewEdges x = new SkewEdges();
        for (int number = 0; number < 11; number++) {
            x.begin();
            x.write(number, 15, number);
            x.commit(number);
        }
        x.begin();
        due.is("sees(11, 15)", x.sees(11, 15), 10);
        due.is("of(11, 3), it has not read", x.of(11, 3), 0);
        due.is("count(11), that was no change", x.count(11), 6);
        SkewEdges y = new SkewEdges();
        y.begin();
        y.write(0, 0, 1);
        y.begin();
        y.commit(0);
        y.begin();
        due.is("sees(1, 0), committed a moment behind its begin", y.sees(1, 0), -6);
        due.is("sees(2, 0), committed a moment ahead of its begin", y.sees(2, 0), 0);
    }

    private void seesItself() {
        due.holds("Promise 14", "Returns the transaction (itself, if it wrote it);");
        SkewEdges x = new SkewEdges();
        x.begin();
        x.write(0, 0, 1);
        due.is("sees(0, 0)", x.sees(0, 0), 0);
        x.commit(0);
        x.begin();
        due.is("sees(1, 0) ahead of its write", x.sees(1, 0), 0);
        x.write(1, 0, 1);
        due.is("sees(1, 0)", x.sees(1, 0), 1);
        due.is("sees(1, 1), another key", x.sees(1, 1), -6);
        due.is("sees(0, 0), committed", x.sees(0, 0), 0);
    }

    private void seesOfNoTransactionOrKey() {
        due.holds("Promise 14", "NO_SUCH if there is no such transaction or key;");
        SkewEdges x = new SkewEdges();
        due.is("sees(0, 0) without transactions", x.sees(0, 0), -1);
        x.begin();
        for (int none : new int[] {-1, 1, 12, 32, MAX, MIN}) {
            due.is("sees(" + none + ", 0)", x.sees(none, 0), -1);
        }
        for (int none : new int[] {-1, 16, 32, MAX, MIN}) {
            due.is("sees(0, " + none + ")", x.sees(0, none), -1);
        }
        due.is("sees(0, 15), the last key", x.sees(0, 15), -6);
    }

    private void seesNobody() {
        due.holds("Promise 14", "NONE if nobody did.");
        SkewEdges x = new SkewEdges();
        x.begin();
        x.begin();
        due.is("sees(0, 0)", x.sees(0, 0), -6);
        x.write(0, 0, 0);
        due.is("sees(1, 0), written by an active one", x.sees(1, 0), -6);
        x.abort(0);
        x.begin();
        due.is("sees(2, 0), written by an aborted one", x.sees(2, 0), -6);
        x.read(2, 0);
        due.is("sees(2, 0), having read it", x.sees(2, 0), -6);
    }
}
