/** The sentences of "Commits": the two reasons, and RULE. */
final class CommitsSentences {
    private static final String PLACE = "Commits";

    private final Due due;

    CommitsSentences(Due due) {
        this.due = due;
    }

    void run() {
        firstOneOfTheReasons();
        reason1();
        reason1SinceItsBegin();
        reason2OfCommittedTransactionsAlone();
        reason2WithItAmongThem();
        ruleAtFirst();
        rule0();
        rule1();
        rule1IfCIsA();
        rule2();
        rule2IfCIsA();
        rule2WithPAsTheLast();
        rule3();
        refusedIsAborted();
        reasonOfAbort();
    }

    private void firstOneOfTheReasons() {
        due.holds(PLACE, "A transaction that is to be committed is refused for the first one of these reasons:");
        SkewEdges x = new SkewEdges();
        for (int i = 0; i < 3; i++) {
            x.begin();
            x.read(i, 0);
            x.write(i, i < 2 ? 0 : 1, 1);
        }
        x.read(0, 1);
        x.commit(0);
        due.is("would(1), both reasons", x.would(1), 1);
        due.is("would(2), the second one alone", x.would(2), 2);
        due.is("commit(1), both reasons", x.commit(1), 1);
        due.is("of(1, 7)", x.of(1, 7), 1);
        due.is("commit(2), the second one alone", x.commit(2), 2);
        due.is("of(2, 7)", x.of(2, 7), 2);
    }

    private void reason1() {
        due.holds(PLACE, "1: it has written a key of which another transaction,");
        SkewEdges x = new SkewEdges();
        for (int i = 0; i < 6; i++) {
            x.begin();
        }
        x.write(0, 15, 1);
        x.write(0, 3, 1);
        x.write(1, 15, 2);
        due.is("would(0), the other one is active", x.would(0), 0);
        x.abort(1);
        due.is("would(0), the other one is aborted", x.would(0), 0);
        due.is("commit(0), it wrote two keys itself", x.commit(0), 0);
        x.read(2, 15);
        due.is("commit(2), it has only read the key", x.commit(2), 0);
        x.write(3, 14, 1);
        due.is("would(3), another key", x.would(3), 0);
        x.write(3, 3, 1);
        due.is("commit(3), one of the keys", x.commit(3), 1);
        x.write(4, 14, 1);
        due.is("would(4), the other one was refused", x.would(4), 0);
        x.write(4, 15, 1);
        due.is("commit(4)", x.commit(4), 1);
        due.is("commit(5), it has written nothing", x.commit(5), 0);
    }

    private void reason1SinceItsBegin() {
        due.holds(PLACE, "committed since its begin, has written a version;");
        SkewEdges x = new SkewEdges();
        x.begin();
        x.write(0, 0, 1);
        x.begin();
        x.commit(0);
        x.begin();
        x.write(1, 0, 2);
        x.write(2, 0, 3);
        due.is("would(1), begun one moment ahead of the commit", x.would(1), 1);
        due.is("would(2), begun one moment behind the commit", x.would(2), 0);
        due.is("commit(2)", x.commit(2), 0);
        due.is("commit(1), two of them", x.commit(1), 1);
        due.is("value(0)", x.value(0), 3);
    }

    /** A is 0, P is 1, C is 2: 0 has read what 1 has written, and 1 what 2 has written. */
    private static SkewEdges chain(int rule, boolean aWrites) {
        SkewEdges x = new SkewEdges();
        x.rule(rule);
        x.begin();
        x.begin();
        x.begin();
        x.read(0, 0);
        x.write(1, 0, 1);
        x.read(1, 1);
        x.write(2, 1, 2);
        if (aWrites) {
            x.write(0, 9, 1);
        }
        return x;
    }

    private void reason2OfCommittedTransactionsAlone() {
        due.holds(PLACE, "2: with it committed at this moment, there would be a triple of committed transactions alone,");
        for (int open = 0; open < 3; open++) {
            for (int first = 0; first < 3; first++) {
                SkewEdges x = chain(0, true);
                int second = 3 - open - first;
                if (first != open && second != open) {
                    due.is("commit(" + first + ")", x.commit(first), 0);
                    due.is("commit(" + second + "), " + open + " is active", x.commit(second), 0);
                    due.is("would(" + open + ")", x.would(open), 2);
                    x.undo();
                    x.abort(open);
                    due.is("commit(" + second + "), " + open + " is aborted", x.commit(second), 0);
                }
            }
        }
    }

    private void reason2WithItAmongThem() {
        due.holds(PLACE, "with it among them, that counts by RULE.");
        SkewEdges x = chain(3, true);
        x.begin();
        x.begin();
        x.write(4, 5, 1);
        x.read(3, 5);
        x.commit(0);
        x.commit(1);
        due.is("commit(2) by rule 3", x.commit(2), 0);
        x.rule(0);
        due.is("commit(3), not among the three", x.commit(3), 0);
        due.is("triple(4, 0), not among the three", x.triple(4, 0), -6);
        due.is("commit(4), not among the three", x.commit(4), 0);
        due.is("count(9)", x.count(9), 1);
    }

    private void ruleAtFirst() {
        due.holds(PLACE, "By RULE (0 to 3;");
        SkewEdges x = new SkewEdges();
        for (int rule = 0; rule < 4; rule++) {
            due.is("rule(" + rule + ")", x.rule(rule), rule == 0 ? 1 : rule - 1);
        }
        due.is("rule(4)", x.rule(4), -2);
        due.is("rule(-1)", x.rule(-1), -2);
        due.holds(PLACE, "1 at first):");
        due.is("count(5) of a new object", new SkewEdges().count(5), 1);
        due.is("rule(2), the previous one", new SkewEdges().rule(2), 1);
    }

    /** Commits the three in this order; answers what the last commit does. */
    private int last(int rule, boolean aWrites, int first, int second, int third) {
        SkewEdges x = chain(rule, aWrites);
        due.is("commit(" + first + "), the first one", x.commit(first), 0);
        due.is("commit(" + second + "), the second one", x.commit(second), 0);
        int answer = x.would(third);
        due.is("commit(" + third + ")", x.commit(third), answer);
        return answer;
    }

    private void rule0() {
        due.holds(PLACE, "0: each triple counts.");
        for (boolean writes : new boolean[] {true, false}) {
            due.is("A, P, C", last(0, writes, 0, 1, 2), 2);
            due.is("A, C, P", last(0, writes, 0, 2, 1), 2);
            due.is("P, A, C", last(0, writes, 1, 0, 2), 2);
            due.is("P, C, A", last(0, writes, 1, 2, 0), 2);
            due.is("C, A, P", last(0, writes, 2, 0, 1), 2);
            due.is("C, P, A", last(0, writes, 2, 1, 0), 2);
        }
    }

    private void rule1() {
        due.holds(PLACE, "1: a triple counts if C was committed ahead of P, and, if C is not A, ahead of A.");
        for (boolean writes : new boolean[] {true, false}) {
            due.is("A, P, C", last(1, writes, 0, 1, 2), 0);
            due.is("A, C, P", last(1, writes, 0, 2, 1), 0);
            due.is("P, A, C", last(1, writes, 1, 0, 2), 0);
            due.is("P, C, A", last(1, writes, 1, 2, 0), 0);
            due.is("C, A, P", last(1, writes, 2, 0, 1), 2);
            due.is("C, P, A", last(1, writes, 2, 1, 0), 2);
        }
    }

    /** Two with an edge each way. */
    private static SkewEdges pair(int rule) {
        SkewEdges x = new SkewEdges();
        x.rule(rule);
        x.begin();
        x.begin();
        x.read(0, 0);
        x.read(1, 1);
        x.write(0, 1, 1);
        x.write(1, 0, 1);
        return x;
    }

    private void rule1IfCIsA() {
        due.holds(PLACE, "if C is not A, ahead of A.");
        for (int first = 0; first < 2; first++) {
            SkewEdges x = pair(1);
            due.is("commit(" + first + ")", x.commit(first), 0);
            due.is("triple(), A", x.triple(1 - first, 0), first);
            due.is("triple(), P", x.triple(1 - first, 1), 1 - first);
            due.is("triple(), C", x.triple(1 - first, 2), first);
            due.is("commit() of the other one", x.commit(1 - first), 2);
        }
    }

    private void rule2() {
        due.holds(PLACE, "2: as 1, but if A has written no key, only if C was committed ahead of the begin of A, too.");
        due.is("C, P, A that writes", last(2, true, 2, 1, 0), 2);
        due.is("C, A that writes, P", last(2, true, 2, 0, 1), 2);
        due.is("P, C, A that writes", last(2, true, 1, 2, 0), 0);
        due.is("A that writes, C, P", last(2, true, 0, 2, 1), 0);
        due.is("A that writes, P, C", last(2, true, 0, 1, 2), 0);
        due.is("C, P, A that only reads", last(2, false, 2, 1, 0), 0);
        due.is("C, A that only reads, P", last(2, false, 2, 0, 1), 0);
        SkewEdges x = readerBehindC(true);
        due.is("commit(1), P", x.commit(1), 0);
        due.is("commit(2), A that only reads, begun a moment behind C's commit", x.commit(2), 2);
        SkewEdges y = readerBehindC(false);
        due.is("commit(1), P", y.commit(1), 0);
        due.is("commit(2), A that only reads, begun a moment ahead of C's commit", y.commit(2), 0);
    }

    /** C is 0, P is 1, A is 2, which only reads: it begins a moment behind C's commit, or a moment ahead of it. */
    private static SkewEdges readerBehindC(boolean behind) {
        SkewEdges x = new SkewEdges();
        x.rule(2);
        x.begin();
        x.begin();
        x.write(0, 0, 1);
        x.read(1, 0);
        x.write(1, 1, 1);
        if (behind) {
            x.commit(0);
            x.begin();
        } else {
            x.begin();
            x.commit(0);
        }
        x.read(2, 1);
        return x;
    }

    private void rule2IfCIsA() {
        due.holds(PLACE, "2: as 1,");
        SkewEdges x = pair(2);
        due.is("commit(0)", x.commit(0), 0);
        due.is("commit(1), C is A", x.commit(1), 2);
        SkewEdges y = readerBehindC(false);
        y.write(2, 15, 0);
        due.is("commit(1), P", y.commit(1), 0);
        due.is("commit(2), A has written the value that was there", y.commit(2), 2);
    }

    private void rule2WithPAsTheLast() {
        due.holds(PLACE, "only if C was committed ahead of the begin of A, too.");
        SkewEdges x = readerBehindC(true);
        due.is("commit(2), A", x.commit(2), 0);
        due.is("commit(1), P, A begun a moment behind C's commit", x.commit(1), 2);
        SkewEdges y = readerBehindC(false);
        due.is("commit(2), A", y.commit(2), 0);
        due.is("commit(1), P, A begun a moment ahead of C's commit", y.commit(1), 0);
    }

    private void rule3() {
        due.holds(PLACE, "3: no triple counts.");
        due.is("C, P, A", last(3, true, 2, 1, 0), 0);
        due.is("C, A, P", last(3, true, 2, 0, 1), 0);
        due.is("A, P, C", last(3, true, 0, 1, 2), 0);
        SkewEdges x = pair(3);
        due.is("commit(0)", x.commit(0), 0);
        due.is("commit(1), C is A", x.commit(1), 0);
        x.begin();
        x.begin();
        x.write(2, 0, 1);
        x.write(3, 0, 1);
        due.is("commit(3)", x.commit(3), 0);
        due.is("commit(2), the reason 1 holds by rule 3, too", x.commit(2), 1);
    }

    private void refusedIsAborted() {
        due.holds(PLACE, "One that is refused is aborted then, with this reason;");
        SkewEdges x = pair(1);
        x.begin();
        x.write(2, 1, 1);
        x.commit(0);
        due.is("commit(1)", x.commit(1), 2);
        due.is("of(1, 0)", x.of(1, 0), 2);
        due.is("of(1, 2)", x.of(1, 2), -6);
        due.is("of(1, 7)", x.of(1, 7), 2);
        due.is("commit(2)", x.commit(2), 1);
        due.is("of(2, 0)", x.of(2, 0), 2);
        due.is("of(2, 7)", x.of(2, 7), 1);
        due.is("of(0, 7), committed", x.of(0, 7), -6);
        due.is("count(3)", x.count(3), 6);
        due.is("write(1, 0, 0), aborted", x.write(1, 0, 0), -5);
    }

    private void reasonOfAbort() {
        due.holds(PLACE, "one that is aborted by abort() has the reason 0.");
        SkewEdges x = pair(1);
        due.is("of(1, 7), active", x.of(1, 7), -6);
        x.commit(0);
        due.is("would(1)", x.would(1), 2);
        x.abort(1);
        due.is("of(1, 7), also if it would have been refused", x.of(1, 7), 0);
    }
}
