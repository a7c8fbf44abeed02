/** The sentences of the promises 1 to 7: a new object, rule, begin, read, write, commit, abort. */
final class ChangesSentences {
    private static final int MAX = Integer.MAX_VALUE, MIN = Integer.MIN_VALUE;

    private final Due due;

    ChangesSentences(Due due) {
        this.due = due;
    }

    void run() {
        newObject();
        newObjectsAreApart();
        rule();
        ruleIsAChange();
        ruleOutOfRange();
        begin();
        beginIsAChange();
        beginOfTooMany();
        read();
        readIsAChange();
        readOfNoTransactionOrKey();
        readByOneThatIsNotActive();
        write();
        writeIsAChange();
        writeOfValues();
        writeOfNoTransactionOrKey();
        writeByOneThatIsNotActive();
        commit();
        commitIsAChange();
        commitOfNoTransaction();
        commitOfOneThatIsNotActive();
        abort();
        abortIsAChange();
        abortOfNoTransaction();
        abortOfOneThatIsNotActive();
    }

    private void newObject() {
        due.holds("Promise 1", "`SkewEdges()`: Creates keys with the value 0, and no transactions.");
        SkewEdges x = new SkewEdges();
        for (int key = 0; key < 16; key++) {
            due.is("value(" + key + ")", x.value(key), 0);
        }
        int[] counts = {0, 0, 0, 0, 0, 1, 0, 0, 0, 1, 0, 0};
        for (int what = 0; what < 12; what++) {
            due.is("count(" + what + ")", x.count(what), counts[what]);
        }
        due.is("of(0, 0)", x.of(0, 0), -1);
        due.is("order(0)", x.order(0), -1);
        due.is("doomed(0)", x.doomed(0), 0);
        due.is("fault()", x.fault(), 0);
        due.is("wipe()", x.wipe(), 0);
        due.is("undo()", x.undo(), -5);
        due.is("restore(0)", x.restore(0), -5);
        due.is("restore(1)", x.restore(1), -5);
    }

    private void newObjectsAreApart() {
        due.holds("Promise 1", "no transactions.");
        SkewEdges x = new SkewEdges();
        x.begin();
        x.write(0, 0, 1);
        x.commit(0);
        x.save(0);
        x.rule(3);
        x.put('b');
        SkewEdges y = new SkewEdges();
        due.is("count(0) of a second object", y.count(0), 0);
        due.is("value(0) of a second object", y.value(0), 0);
        due.is("count(5) of a second object", y.count(5), 1);
        due.is("count(10) of a second object", y.count(10), 0);
        due.is("restore(0) of a second object", y.restore(0), -5);
    }

    private void rule() {
        due.holds("Promise 2", "`int rule(int rule)`: Changes RULE.");
        SkewEdges x = new SkewEdges();
        for (int rule = 3; rule >= 0; rule--) {
            x.rule(rule);
            due.is("count(5) behind rule(" + rule + ")", x.count(5), rule);
        }
        due.holds("Promise 2", "Returns the previous one;");
        int previous = 0;
        for (int rule : new int[] {0, 3, 3, 1, 2, 0, 2}) {
            due.is("rule(" + rule + ")", x.rule(rule), previous);
            previous = rule;
        }
    }

    private void ruleIsAChange() {
        due.holds("Promise 2", "This is a change.");
        SkewEdges x = new SkewEdges();
        x.rule(3);
        due.is("count(11)", x.count(11), 1);
        x.rule(3);
        due.is("count(11), also if nothing is different", x.count(11), 2);
        due.is("undo()", x.undo(), 1);
        due.is("count(5)", x.count(5), 3);
        due.is("undo()", x.undo(), 0);
        due.is("count(5)", x.count(5), 1);
    }

    private void ruleOutOfRange() {
        due.holds("Promise 2", "- `rule`: 0 to 3");
        SkewEdges x = new SkewEdges();
        due.is("rule(0), the smallest", x.rule(0), 1);
        due.is("rule(3), the largest", x.rule(3), 0);
        due.holds("Promise 2", "BAD_VALUE if rule is out of range.");
        for (int rule : new int[] {-1, 4, 5, 32, MAX, MIN}) {
            due.is("rule(" + rule + ")", x.rule(rule), -2);
            due.is("count(5) behind rule(" + rule + ")", x.count(5), 3);
        }
        due.is("count(11)", x.count(11), 2);
    }

    private void begin() {
        due.holds("Promise 3", "`int begin()`: A transaction begins.");
        SkewEdges x = new SkewEdges();
        x.begin();
        x.begin();
        due.is("count(0)", x.count(0), 2);
        int[] fresh = {0, 2, -6, 0, 0, 0, 0, -6, 2};
        for (int what = 0; what < 9; what++) {
            due.is("of(1, " + what + ")", x.of(1, what), fresh[what]);
        }
        due.holds("Promise 3", "Returns its number;");
        for (int number = 2; number < 12; number++) {
            due.is("begin()", x.begin(), number);
            if (number % 2 == 0) {
                x.abort(number);
            }
        }
    }

    private void beginIsAChange() {
        due.holds("Promise 3", "This is a change.");
        SkewEdges x = new SkewEdges();
        x.begin();
        due.is("count(11)", x.count(11), 1);
        due.is("undo()", x.undo(), 0);
        due.is("count(0)", x.count(0), 0);
        due.is("count(4)", x.count(4), 0);
        due.is("begin() again", x.begin(), 0);
    }

    private void beginOfTooMany() {
        due.holds("Promise 3", "TOO_MANY if there are 12.");
        SkewEdges x = new SkewEdges();
        for (int number = 0; number < 11; number++) {
            x.begin();
        }
        due.is("begin() with 11", x.begin(), 11);
        due.is("begin() with 12", x.begin(), -4);
        due.is("begin() with 12 again", x.begin(), -4);
        for (int number = 0; number < 12; number++) {
            x.abort(number);
        }
        due.is("begin() with 12 that are aborted", x.begin(), -4);
        due.is("count(0)", x.count(0), 12);
        x.save(0);
        for (int i = 0; i < 6; i++) {
            x.undo();
        }
        due.is("begin() behind undo", x.begin(), -4);
        due.is("count(1) behind undo", x.count(1), 0xfc0);
    }

    private void read() {
        due.holds("Promise 4", "`int read(int transaction, int key)`: A transaction reads a key.");
        SkewEdges x = new SkewEdges();
        x.begin();
        x.begin();
        x.read(1, 0);
        due.is("of(1, 3), key 0", x.of(1, 3), 1);
        x.read(1, 15);
        due.is("of(1, 3), key 15", x.of(1, 3), 0x8001);
        due.is("of(0, 3)", x.of(0, 3), 0);
        due.holds("Promise 4", "Returns the value that it sees;");
        x.write(0, 15, 999);
        x.write(0, 0, 0);
        due.is("read(0, 15) of its own", x.read(0, 15), 999);
        due.is("read(0, 0) of its own", x.read(0, 0), 0);
        due.is("read(1, 15) of another active one's", x.read(1, 15), 0);
        x.commit(0);
        due.is("read(1, 15) of one committed since", x.read(1, 15), 0);
        x.begin();
        due.is("read(2, 15) of the version", x.read(2, 15), 999);
        due.is("read(2, 14) of nobody's", x.read(2, 14), 0);
    }

    private void readIsAChange() {
        due.holds("Promise 4", "This is a change.");
        SkewEdges x = new SkewEdges();
        x.begin();
        x.read(0, 5);
        due.is("count(11)", x.count(11), 2);
        x.read(0, 5);
        due.is("count(11), also if nothing is different", x.count(11), 3);
        due.is("undo()", x.undo(), 2);
        due.is("of(0, 3)", x.of(0, 3), 32);
        due.is("undo()", x.undo(), 1);
        due.is("of(0, 3)", x.of(0, 3), 0);
    }

    private void readOfNoTransactionOrKey() {
        due.holds("Promise 4", "NO_SUCH if there is no such transaction or key;");
        SkewEdges x = new SkewEdges();
        due.is("read(0, 0) without transactions", x.read(0, 0), -1);
        x.begin();
        x.begin();
        for (int none : new int[] {-1, 2, 11, 12, 32, 33, MAX, MIN}) {
            due.is("read(" + none + ", 0)", x.read(none, 0), -1);
        }
        for (int none : new int[] {-1, 16, 32, 33, MAX, MIN}) {
            due.is("read(1, " + none + ")", x.read(1, none), -1);
        }
        due.is("read(1, 0), the first key", x.read(1, 0), 0);
        due.is("read(1, 15), the last key", x.read(1, 15), 0);
        x.abort(0);
        due.is("read(0, 16), no key and not active", x.read(0, 16), -1);
        due.is("of(1, 3)", x.of(1, 3), 0x8001);
    }

    private void readByOneThatIsNotActive() {
        due.holds("Promise 4", "NOT_POSSIBLE if it is not active.");
        SkewEdges x = new SkewEdges();
        x.begin();
        x.begin();
        x.commit(0);
        x.abort(1);
        due.is("read(0, 0), committed", x.read(0, 0), -5);
        due.is("read(1, 0), aborted", x.read(1, 0), -5);
        due.is("of(0, 3)", x.of(0, 3), 0);
    }

    private void write() {
        due.holds("Promise 5", "`int write(int transaction, int key, int value)`: A transaction writes a key.");
        SkewEdges x = new SkewEdges();
        x.begin();
        x.begin();
        x.write(1, 4, 44);
        due.is("read(1, 4)", x.read(1, 4), 44);
        due.is("of(1, 4)", x.of(1, 4), 16);
        due.is("of(0, 4)", x.of(0, 4), 0);
        due.is("value(4), not committed", x.value(4), 0);
        due.holds("Promise 5", "Returns the keys that it has written then, as a set;");
        due.is("write(1, 0, 1)", x.write(1, 0, 1), 17);
        due.is("write(1, 15, 1)", x.write(1, 15, 1), 0x8011);
        due.is("write(1, 4, 1) again", x.write(1, 4, 1), 0x8011);
        due.is("write(0, 1, 1)", x.write(0, 1, 1), 2);
    }

    private void writeIsAChange() {
        due.holds("Promise 5", "This is a change.");
        SkewEdges x = new SkewEdges();
        x.begin();
        x.write(0, 3, 1);
        x.write(0, 3, 2);
        x.write(0, 3, 2);
        due.is("count(11)", x.count(11), 4);
        due.is("undo() of what made nothing different", x.undo(), 3);
        due.is("undo()", x.undo(), 2);
        due.is("read(0, 3)", x.read(0, 3), 1);
        x.undo();
        due.is("undo()", x.undo(), 1);
        due.is("of(0, 4)", x.of(0, 4), 0);
        due.is("read(0, 3)", x.read(0, 3), 0);
    }

    private void writeOfValues() {
        due.holds("Promise 5", "- `value`: 0 to 999");
        SkewEdges x = new SkewEdges();
        x.begin();
        for (int value : new int[] {999, 0, 1, 255, 256, 998}) {
            due.is("write(0, 0, " + value + ")", x.write(0, 0, value), 1);
            due.is("read(0, 0)", x.read(0, 0), value);
        }
        due.holds("Promise 5", "BAD_VALUE if value is out of range;");
        for (int value : new int[] {-1, 1000, 1001, MAX, MIN}) {
            due.is("write(0, 1, " + value + ")", x.write(0, 1, value), -2);
        }
        due.is("read(0, 0)", x.read(0, 0), 998);
        due.is("of(0, 4)", x.of(0, 4), 1);
        x.commit(0);
        due.is("write(0, 0, 1000) by a committed one", x.write(0, 0, 1000), -2);
    }

    private void writeOfNoTransactionOrKey() {
        due.holds("Promise 5", "NO_SUCH if there is no such transaction or key;");
        SkewEdges x = new SkewEdges();
        due.is("write(0, 0, 0) without transactions", x.write(0, 0, 0), -1);
        x.begin();
        for (int none : new int[] {-1, 1, 12, 32, MAX, MIN}) {
            due.is("write(" + none + ", 0, 0)", x.write(none, 0, 0), -1);
            due.is("write(" + none + ", 0, 1000)", x.write(none, 0, 1000), -1);
        }
        for (int none : new int[] {-1, 16, 32, MAX, MIN}) {
            due.is("write(0, " + none + ", 0)", x.write(0, none, 0), -1);
            due.is("write(0, " + none + ", -1)", x.write(0, none, -1), -1);
        }
        due.is("of(0, 4)", x.of(0, 4), 0);
        due.is("write(0, 15, 0), the last key", x.write(0, 15, 0), 0x8000);
    }

    private void writeByOneThatIsNotActive() {
        due.holds("Promise 5", "NOT_POSSIBLE if it is not active.");
        SkewEdges x = new SkewEdges();
        x.begin();
        x.begin();
        x.write(0, 0, 5);
        x.commit(0);
        x.abort(1);
        due.is("write(0, 0, 6), committed", x.write(0, 0, 6), -5);
        due.is("write(1, 0, 6), aborted", x.write(1, 0, 6), -5);
        due.is("value(0)", x.value(0), 5);
        due.is("of(1, 4)", x.of(1, 4), 0);
    }

    /** Each of the two has read what the other one has written; 2 has written what 0 has written. */
    private static SkewEdges pairAndOneMore() {
        SkewEdges x = new SkewEdges();
        x.begin();
        x.begin();
        x.begin();
        x.read(0, 0);
        x.read(1, 1);
        x.write(0, 1, 1);
        x.write(1, 0, 1);
        x.write(2, 1, 2);
        return x;
    }

    private void commit() {
        due.holds("Promise 6", "`int commit(int transaction)`: A transaction is committed, or refused and aborted.");
        SkewEdges x = pairAndOneMore();
        x.commit(0);
        x.commit(1);
        x.commit(2);
        due.is("count(2)", x.count(2), 1);
        due.is("count(3)", x.count(3), 6);
        due.is("of(0, 2)", x.of(0, 2), 4);
        due.is("count(4)", x.count(4), 4);
        due.holds("Promise 6", "Returns 0 if it is committed, otherwise the reason, 1 or 2;");
        SkewEdges y = pairAndOneMore();
        due.is("commit(0)", y.commit(0), 0);
        due.is("commit(1)", y.commit(1), 2);
        due.is("commit(2)", y.commit(2), 1);
    }

    private void commitIsAChange() {
        due.holds("Promise 6", "This is a change.");
        SkewEdges x = pairAndOneMore();
        x.save(0);
        x.restore(0);
        x.commit(0);
        String behindFirst = Answers.of(x);
        x.commit(1);
        due.is("count(1)", x.count(1), 4);
        due.is("undo() of one that was refused", x.undo(), 5);
        x.rule(1);
        due.same("all", Answers.of(x), behindFirst);
        x.undo();
        due.is("undo() of one that was committed", x.undo(), 4);
        due.is("of(0, 0)", x.of(0, 0), 0);
        due.is("of(0, 2)", x.of(0, 2), -6);
        due.is("count(4)", x.count(4), 3);
    }

    private void commitOfNoTransaction() {
        due.holds("Promise 6", "NO_SUCH if there is no such transaction;");
        SkewEdges x = new SkewEdges();
        due.is("commit(0) without transactions", x.commit(0), -1);
        x.begin();
        for (int none : new int[] {-1, 1, 12, 32, MAX, MIN}) {
            due.is("commit(" + none + ")", x.commit(none), -1);
        }
        due.is("count(1)", x.count(1), 1);
    }

    private void commitOfOneThatIsNotActive() {
        due.holds("Promise 6", "NOT_POSSIBLE if it is not active.");
        SkewEdges x = pairAndOneMore();
        x.commit(0);
        x.commit(1);
        x.abort(2);
        due.is("commit(0), committed", x.commit(0), -5);
        due.is("commit(1), refused", x.commit(1), -5);
        due.is("commit(2), aborted", x.commit(2), -5);
        due.is("of(0, 2)", x.of(0, 2), 4);
        due.is("count(4)", x.count(4), 4);
    }

    private void abort() {
        due.holds("Promise 7", "`int abort(int transaction)`: A transaction is aborted.");
        SkewEdges x = pairAndOneMore();
        x.abort(1);
        due.is("of(1, 0)", x.of(1, 0), 2);
        due.is("of(1, 7)", x.of(1, 7), 0);
        due.is("of(1, 2)", x.of(1, 2), -6);
        due.is("count(4)", x.count(4), 3);
        due.holds("Promise 7", "Returns how many are active then;");
        SkewEdges y = new SkewEdges();
        for (int number = 0; number < 12; number++) {
            y.begin();
        }
        y.commit(11);
        for (int number = 0; number < 11; number++) {
            due.is("abort(" + number + ")", y.abort(number), 10 - number);
        }
    }

    private void abortIsAChange() {
        due.holds("Promise 7", "This is a change.");
        SkewEdges x = new SkewEdges();
        x.begin();
        x.abort(0);
        due.is("count(11)", x.count(11), 2);
        due.is("undo()", x.undo(), 1);
        due.is("of(0, 0)", x.of(0, 0), 0);
        due.is("of(0, 7)", x.of(0, 7), -6);
        due.is("commit(0)", x.commit(0), 0);
    }

    private void abortOfNoTransaction() {
        due.holds("Promise 7", "NO_SUCH if there is no such transaction;");
        SkewEdges x = new SkewEdges();
        due.is("abort(0) without transactions", x.abort(0), -1);
        x.begin();
        for (int none : new int[] {-1, 1, 12, 32, MAX, MIN}) {
            due.is("abort(" + none + ")", x.abort(none), -1);
        }
        due.is("count(1)", x.count(1), 1);
    }

    private void abortOfOneThatIsNotActive() {
        due.holds("Promise 7", "NOT_POSSIBLE if it is not active.");
        SkewEdges x = pairAndOneMore();
        x.commit(0);
        x.commit(1);
        x.abort(2);
        due.is("abort(0), committed", x.abort(0), -5);
        due.is("abort(1), refused", x.abort(1), -5);
        due.is("abort(2), aborted", x.abort(2), -5);
        due.is("of(0, 0)", x.of(0, 0), 1);
        due.is("of(1, 7)", x.of(1, 7), 2);
        due.is("of(2, 7)", x.of(2, 7), 0);
    }
}
