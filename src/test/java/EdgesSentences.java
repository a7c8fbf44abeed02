/** The sentences of "Edges": who overlaps, edges, triples and their pivots. */
final class EdgesSentences {
    private static final String PLACE = "Edges";

    private final Due due;

    EdgesSentences(Due due) {
        this.due = due;
    }

    void run() {
        overlapUnlessAborted();
        overlapUnlessCommittedAheadOfTheBegin();
        edgeToAnotherOne();
        edgeOverSomeKey();
        edgeEachWay();
        triple();
        cCanBeA();
        pIsItsPivot();
    }

    private void overlapUnlessAborted() {
        due.holds(PLACE, "Two transactions overlap if neither of them is aborted,");
        SkewEdges x = new SkewEdges();
        for (int i = 0; i < 4; i++) {
            x.begin();
            x.read(i, 0);
            x.write(i, 0, 1);
        }
        due.is("edge(0, 1), both active", x.edge(0, 1), 1);
        x.abort(1);
        due.is("edge(0, 1), to an aborted one", x.edge(0, 1), 0);
        due.is("edge(1, 0), from an aborted one", x.edge(1, 0), 0);
        x.commit(0);
        due.is("commit(2), refused", x.commit(2), 1);
        due.is("edge(0, 2), to one that was refused", x.edge(0, 2), 0);
        due.is("edge(2, 0), from one that was refused", x.edge(2, 0), 0);
        due.is("edge(1, 2), both aborted", x.edge(1, 2), 0);
        due.is("edge(3, 0), neither is aborted", x.edge(3, 0), 1);
        due.is("count(6)", x.count(6), 2);
    }

    private void overlapUnlessCommittedAheadOfTheBegin() {
        due.holds(PLACE, "and neither one was committed ahead of the begin of the other one.");
        SkewEdges x = new SkewEdges();
        x.begin();
        x.read(0, 0);
        x.write(0, 1, 1);
        x.begin();
        x.commit(0);
        x.begin();
        for (int later = 1; later <= 2; later++) {
            x.read(later, 1);
            x.write(later, 0, 1);
        }
        due.is("edge(0, 1), begun one moment ahead of the commit", x.edge(0, 1), 1);
        due.is("edge(1, 0), begun one moment ahead of the commit", x.edge(1, 0), 1);
        due.is("edge(0, 2), begun one moment behind the commit", x.edge(0, 2), 0);
        due.is("edge(2, 0), begun one moment behind the commit", x.edge(2, 0), 0);
        x.rule(3);
        due.is("commit(1)", x.commit(1), 0);
        due.is("edge(0, 1), both committed", x.edge(0, 1), 1);
        due.is("edge(1, 0), both committed", x.edge(1, 0), 1);
    }

    private void edgeToAnotherOne() {
        due.holds(PLACE, "There is an edge from a transaction to another one");
        SkewEdges x = new SkewEdges();
        x.begin();
        x.read(0, 0);
        x.write(0, 0, 1);
        due.is("edge(0, 0), to itself", x.edge(0, 0), 0);
        due.is("of(0, 5)", x.of(0, 5), 0);
        due.is("of(0, 6)", x.of(0, 6), 0);
        due.is("count(6)", x.count(6), 0);
        x.commit(0);
        due.is("edge(0, 0), to itself, committed", x.edge(0, 0), 0);
        due.is("count(8)", x.count(8), 0);
    }

    private void edgeOverSomeKey() {
        due.holds(PLACE, "if they overlap, and the first one has read some key that the other one has written.");
        SkewEdges x = new SkewEdges();
        x.begin();
        x.begin();
        x.begin();
        x.read(0, 15);
        x.read(0, 14);
        x.write(1, 13, 1);
        due.is("edge(0, 1), other keys", x.edge(0, 1), 0);
        x.write(1, 15, 1);
        due.is("edge(0, 1), read ahead of the write", x.edge(0, 1), 1);
        due.is("edge(1, 0), it has read nothing", x.edge(1, 0), 0);
        x.commit(1);
        x.read(2, 15);
        due.is("edge(2, 1), read behind the commit", x.edge(2, 1), 1);
        x.write(0, 0, 1);
        x.write(2, 0, 1);
        x.read(2, 0);
        due.is("edge(2, 0), read behind its own write", x.edge(2, 0), 0);
        x.read(2, 1);
        x.write(2, 1, 5);
        x.write(0, 1, 5);
        due.is("edge(2, 0), read ahead of its own write", x.edge(2, 0), 1);
        due.is("edge(0, 2), both have only written", x.edge(0, 2), 0);
    }

    private void edgeEachWay() {
        due.holds(PLACE, "(So there can be an edge each way.)");
        SkewEdges x = new SkewEdges();
        x.begin();
        x.begin();
        x.read(0, 0);
        x.read(1, 0);
        x.write(0, 0, 1);
        x.write(1, 0, 1);
        due.is("edge(0, 1)", x.edge(0, 1), 1);
        due.is("edge(1, 0)", x.edge(1, 0), 1);
        due.is("count(6)", x.count(6), 2);
    }

    /** 1 and 2 read what 0 writes, and 0 reads what 3 writes. */
    private static SkewEdges twoToOneToOne() {
        SkewEdges x = new SkewEdges();
        for (int i = 0; i < 4; i++) {
            x.begin();
        }
        x.write(0, 0, 1);
        x.read(1, 0);
        x.read(2, 0);
        x.read(0, 1);
        x.write(3, 1, 1);
        return x;
    }

    private void triple() {
        due.holds(PLACE, "A triple is an edge from A to P and an edge from P to C;");
        SkewEdges x = twoToOneToOne();
        due.is("count(8), two A", x.count(8), 2);
        x.abort(3);
        due.is("count(8), edges in alone", x.count(8), 0);
        due.is("count(7), edges in alone", x.count(7), 0);
        x.undo();
        x.abort(1);
        due.is("count(8), one A", x.count(8), 1);
        x.abort(2);
        due.is("count(8), an edge out alone", x.count(8), 0);
        due.is("count(7), an edge out alone", x.count(7), 0);
    }

    private void cCanBeA() {
        due.holds(PLACE, "C can be A.");
        SkewEdges x = new SkewEdges();
        x.begin();
        x.begin();
        x.read(0, 0);
        x.write(1, 0, 1);
        due.is("count(8), one way", x.count(8), 0);
        x.read(1, 1);
        x.write(0, 1, 1);
        due.is("count(8), each way", x.count(8), 2);
        due.is("commit(0)", x.commit(0), 0);
        due.is("triple(1, 0), A", x.triple(1, 0), 0);
        due.is("triple(1, 1), P", x.triple(1, 1), 1);
        due.is("triple(1, 2), C", x.triple(1, 2), 0);
    }

    private void pIsItsPivot() {
        due.holds(PLACE, "P is its pivot.");
        SkewEdges x = twoToOneToOne();
        due.is("count(7)", x.count(7), 1);
        x.read(3, 2);
        x.write(2, 2, 1);
        due.is("count(7), a ring of three and one more", x.count(7), 1 | 4 | 8);
        due.is("count(8), a ring of three and one more", x.count(8), 4);
    }
}
