/** Promises 8 to 14: value, of, edge, over, count, order, sees. */
public final class LooksTest {
    private static final Due DUE = new Due();

    public static void main(String[] args) {
        value();
        of();
        ofEdges();
        ofSafeSnapshot();
        ofUnsafeSnapshot();
        versionsStandByTheirCommits();
        edgeBetweenThoseThatOverlap();
        edgeEachWay();
        edgeToOneThatIsNotItself();
        over();
        count();
        countSerial();
        countSerialOverBlindWriters();
        allTwelve();
        orderByReaders();
        orderByWriters();
        orderByThoseWhoSaw();
        orderOfTwoAheadOfOne();
        orderErrors();
        sees();
        DUE.end();
    }

    private static void value() {
        SkewEdges x = new SkewEdges();
        x.begin();
        x.begin();
        x.write(0, 0, 1);
        x.write(1, 0, 2);
        x.write(1, 15, 999);
        DUE.is(8, "value(0), not committed", x.value(0), 0);
        x.commit(1);
        x.commit(0);
        DUE.is(8, "value(0)", x.value(0), 2);
        DUE.is(8, "value(15)", x.value(15), 999);
        x.begin();
        x.write(2, 0, 0);
        x.commit(2);
        DUE.is(8, "value(0), written as 0", x.value(0), 0);
        DUE.is(8, "value(16)", x.value(16), SkewEdges.NO_SUCH);
        DUE.is(8, "value(-1)", x.value(-1), SkewEdges.NO_SUCH);
        DUE.is(8, "value(MIN)", x.value(Integer.MIN_VALUE), SkewEdges.NO_SUCH);
    }

    private static void of() {
        SkewEdges x = new SkewEdges();
        DUE.is(9, "of(0, 0)", x.of(0, 0), SkewEdges.NO_SUCH);
        x.begin();
        x.begin();
        x.begin();
        x.read(0, 1);
        x.read(0, 3);
        x.write(0, 2, 4);
        x.commit(0);
        x.abort(1);
        int[] ofCommitted = {1, 1, 4, 10, 4, 0, 0, SkewEdges.NONE, SkewEdges.NONE};
        int[] ofAborted = {2, 2, SkewEdges.NONE, 0, 0, 0, 0, 0, SkewEdges.NONE};
        int[] ofActive = {0, 3, SkewEdges.NONE, 0, 0, 0, 0, SkewEdges.NONE, 1};
        for (int what = 0; what < 9; what++) {
            DUE.is(9, "of(0, " + what + ")", x.of(0, what), ofCommitted[what]);
            DUE.is(9, "of(1, " + what + ")", x.of(1, what), ofAborted[what]);
            DUE.is(9, "of(2, " + what + ")", x.of(2, what), ofActive[what]);
        }
        DUE.is(9, "of(0, 9)", x.of(0, 9), SkewEdges.BAD_VALUE);
        DUE.is(9, "of(0, -1)", x.of(0, -1), SkewEdges.BAD_VALUE);
        DUE.is(9, "of(3, 9)", x.of(3, 9), SkewEdges.NO_SUCH);
        DUE.is(9, "of(-1, 0)", x.of(-1, 0), SkewEdges.NO_SUCH);
    }

    private static void ofEdges() {
        SkewEdges x = new SkewEdges();
        x.begin();
        x.begin();
        x.begin();
        x.read(0, 0);
        x.read(2, 0);
        x.write(1, 0, 1);
        x.write(2, 0, 1);
        DUE.is(9, "of(0, 5)", x.of(0, 5), 6);
        DUE.is(9, "of(1, 5)", x.of(1, 5), 0);
        DUE.is(9, "of(2, 5)", x.of(2, 5), 2);
        DUE.is(9, "of(0, 6)", x.of(0, 6), 0);
        DUE.is(9, "of(1, 6)", x.of(1, 6), 5);
        DUE.is(9, "of(2, 6)", x.of(2, 6), 1);
    }

    private static void ofSafeSnapshot() {
        SkewEdges x = new SkewEdges();
        x.begin();
        x.begin();
        x.begin();
        DUE.is(9, "of(2, 8) with two active", x.of(2, 8), 2);
        x.abort(0);
        DUE.is(9, "of(2, 8) with one active", x.of(2, 8), 2);
        x.begin();
        x.commit(2);
        DUE.is(9, "of(2, 8) of a committed one", x.of(2, 8), 2);
        x.commit(1);
        DUE.is(9, "of(2, 8) with a later one active", x.of(2, 8), 1);
        DUE.is(9, "of(3, 8)", x.of(3, 8), 1);
        x.abort(3);
        DUE.is(9, "of(3, 8) of an aborted one", x.of(3, 8), SkewEdges.NONE);
    }

    /** 1 reads behind the back of 2, which is committed ahead of the begin of 3. */
    private static SkewEdges spoiled() {
        SkewEdges x = new SkewEdges();
        x.begin();
        x.begin();
        x.begin();
        x.read(1, 5);
        x.write(2, 5, 1);
        x.commit(2);
        x.begin();
        return x;
    }

    private static void ofUnsafeSnapshot() {
        SkewEdges x = spoiled();
        DUE.is(9, "of(3, 8), the edge's one is active", x.of(3, 8), 2);
        x.commit(1);
        DUE.is(9, "of(3, 8), the edge's one is committed", x.of(3, 8), 0);
        x.abort(0);
        DUE.is(9, "of(3, 8), all have ended", x.of(3, 8), 0);
        DUE.is(9, "of(1, 8), its own edge does not count", x.of(1, 8), 1);
        x.begin();
        DUE.is(9, "of(4, 8), begun behind all of it", x.of(4, 8), 2);
        x.commit(3);
        DUE.is(9, "of(4, 8)", x.of(4, 8), 1);
        SkewEdges y = spoiled();
        y.abort(1);
        DUE.is(9, "of(3, 8), the edge's one is aborted", y.of(3, 8), 2);
        y.abort(0);
        DUE.is(9, "of(3, 8), all are aborted", y.of(3, 8), 1);
        SkewEdges z = new SkewEdges();
        z.begin();
        z.begin();
        z.begin();
        z.read(0, 5);
        z.write(1, 5, 1);
        z.commit(1);
        z.commit(0);
        DUE.is(9, "of(2, 8), committed behind its begin", z.of(2, 8), 1);
    }

    /** 0 begins first and is committed last. */
    private static void versionsStandByTheirCommits() {
        SkewEdges x = new SkewEdges();
        x.begin();
        x.begin();
        x.write(1, 1, 11);
        x.commit(1);
        x.begin();
        x.write(2, 1, 22);
        x.begin();
        x.commit(2);
        x.begin();
        x.write(0, 0, 33);
        x.commit(0);
        DUE.is(8, "value(1)", x.value(1), 22);
        DUE.is(8, "value(0)", x.value(0), 33);
        DUE.is(14, "sees(3, 1)", x.sees(3, 1), 1);
        DUE.is(14, "sees(4, 1)", x.sees(4, 1), 2);
        DUE.is(14, "sees(4, 0)", x.sees(4, 0), SkewEdges.NONE);
    }

    private static void edgeBetweenThoseThatOverlap() {
        SkewEdges x = new SkewEdges();
        x.begin();
        x.read(0, 1);
        x.commit(0);
        x.begin();
        x.write(1, 1, 3);
        DUE.is(10, "edge(0, 1), committed ahead of the begin", x.edge(0, 1), 0);
        x.begin();
        x.read(2, 1);
        DUE.is(10, "edge(2, 1), both active", x.edge(2, 1), 1);
        DUE.is(10, "edge(1, 2), the other way", x.edge(1, 2), 0);
        x.commit(1);
        DUE.is(10, "edge(2, 1), one committed", x.edge(2, 1), 1);
        x.begin();
        x.read(3, 1);
        DUE.is(10, "edge(3, 1), begun behind the commit", x.edge(3, 1), 0);
        x.commit(2);
        DUE.is(10, "edge(2, 1), both committed", x.edge(2, 1), 1);
        x.begin();
        x.write(4, 1, 4);
        DUE.is(10, "edge(3, 4)", x.edge(3, 4), 1);
        x.abort(4);
        DUE.is(10, "edge(3, 4), to an aborted one", x.edge(3, 4), 0);
        x.begin();
        x.write(5, 1, 4);
        x.abort(3);
        DUE.is(10, "edge(3, 5), from an aborted one", x.edge(3, 5), 0);
    }

    private static void edgeEachWay() {
        SkewEdges x = new SkewEdges();
        x.begin();
        x.begin();
        x.read(0, 0);
        x.read(1, 1);
        x.write(0, 1, 1);
        x.write(1, 0, 1);
        DUE.is(10, "edge(0, 1)", x.edge(0, 1), 1);
        DUE.is(10, "edge(1, 0)", x.edge(1, 0), 1);
    }

    private static void edgeToOneThatIsNotItself() {
        SkewEdges x = new SkewEdges();
        x.begin();
        x.read(0, 0);
        x.write(0, 0, 1);
        DUE.is(10, "edge(0, 0)", x.edge(0, 0), 0);
        DUE.is(10, "edge(0, 1)", x.edge(0, 1), SkewEdges.NO_SUCH);
        DUE.is(10, "edge(1, 0)", x.edge(1, 0), SkewEdges.NO_SUCH);
        DUE.is(10, "edge(-1, 0)", x.edge(-1, 0), SkewEdges.NO_SUCH);
        DUE.is(10, "edge(0, -1)", x.edge(0, -1), SkewEdges.NO_SUCH);
    }

    private static void over() {
        SkewEdges x = new SkewEdges();
        x.begin();
        x.begin();
        x.read(0, 15);
        DUE.is(11, "over(0, 1) without an edge", x.over(0, 1), SkewEdges.NONE);
        x.write(1, 15, 1);
        DUE.is(11, "over(0, 1)", x.over(0, 1), 15);
        x.read(0, 2);
        x.read(0, 3);
        x.write(1, 3, 1);
        DUE.is(11, "over(0, 1), the lowest of both", x.over(0, 1), 3);
        x.read(0, 0);
        x.write(1, 0, 1);
        DUE.is(11, "over(0, 1), key 0", x.over(0, 1), 0);
        DUE.is(11, "over(1, 0)", x.over(1, 0), SkewEdges.NONE);
        DUE.is(11, "over(0, 0)", x.over(0, 0), SkewEdges.NONE);
        DUE.is(11, "over(0, 2)", x.over(0, 2), SkewEdges.NO_SUCH);
        DUE.is(11, "over(2, 0)", x.over(2, 0), SkewEdges.NO_SUCH);
        DUE.is(11, "over(-1, 0)", x.over(-1, 0), SkewEdges.NO_SUCH);
    }

    private static void count() {
        SkewEdges x = new SkewEdges();
        for (int i = 0; i < 5; i++) {
            x.begin();
        }
        x.read(0, 0);
        x.read(1, 0);
        x.write(2, 0, 1);
        x.read(2, 1);
        x.write(3, 1, 1);
        x.write(0, 1, 1);
        x.rule(2);
        Due.put(x, "b;b");
        int[] early = {5, 31, 0, 0, 5, 2, 4, 5, 5, 1, 3, 6};
        for (int what = 0; what < 12; what++) {
            DUE.is(12, "count(" + what + ")", x.count(what), early[what]);
        }
        x.commit(4);
        x.abort(1);
        int[] late = {5, 13, 16, 2, 6, 2, 3, 5, 3, 1, 3, 6};
        for (int what = 0; what < 12; what++) {
            DUE.is(12, "count(" + what + ") later", x.count(what), late[what]);
        }
        DUE.is(12, "count(12)", x.count(12), SkewEdges.BAD_VALUE);
        DUE.is(12, "count(-1)", x.count(-1), SkewEdges.BAD_VALUE);
        DUE.is(12, "count(MAX)", x.count(Integer.MAX_VALUE), SkewEdges.BAD_VALUE);
    }

    private static void countSerial() {
        SkewEdges x = new SkewEdges();
        x.rule(3);
        x.begin();
        x.begin();
        x.begin();
        for (int i = 0; i < 3; i++) {
            x.read(i, i);
            x.write(i, (i + 1) % 3, 1);
        }
        x.commit(0);
        x.commit(1);
        DUE.is(12, "count(9), a chain", x.count(9), 1);
        DUE.is(12, "commit(2)", x.commit(2), 0);
        DUE.is(12, "count(9), a ring of three", x.count(9), 0);
        DUE.is(13, "order(0)", x.order(0), SkewEdges.NOT_POSSIBLE);
        DUE.is(13, "order(2)", x.order(2), SkewEdges.NOT_POSSIBLE);
        DUE.is(13, "order(3), not so many", x.order(3), SkewEdges.NO_SUCH);
        x.undo();
        x.abort(2);
        DUE.is(12, "count(9), with the third one aborted", x.count(9), 1);
    }

    /** 1 and 2 write a key that neither reads; 0 stands ahead of 1 and behind 2. */
    private static void countSerialOverBlindWriters() {
        SkewEdges x = new SkewEdges();
        x.rule(3);
        x.begin();
        x.read(0, 4);
        x.write(0, 5, 1);
        x.begin();
        x.write(1, 4, 1);
        x.commit(1);
        x.begin();
        x.write(2, 4, 2);
        x.read(2, 5);
        x.commit(2);
        DUE.is(12, "count(9)", x.count(9), 1);
        x.commit(0);
        DUE.is(12, "count(9), a ring with blind writers", x.count(9), 0);
    }

    /** As many transactions as there can be, each with an edge to each other one. */
    private static void allTwelve() {
        SkewEdges x = new SkewEdges();
        for (int t = 0; t < 12; t++) {
            x.begin();
            x.read(t, 0);
            x.write(t, 0, t);
        }
        DUE.is(12, "count(6)", x.count(6), 132);
        DUE.is(12, "count(7)", x.count(7), 4095);
        DUE.is(12, "count(8)", x.count(8), 12 * 11 * 11);
        DUE.is(9, "of(11, 5)", x.of(11, 5), 2047);
        DUE.is(9, "of(0, 6)", x.of(0, 6), 4094);
        DUE.is(9, "of(11, 8)", x.of(11, 8), SkewEdges.NONE);
        DUE.is(17, "doomed(0)", x.doomed(0), 0);
        DUE.is(6, "commit(11)", x.commit(11), 0);
        DUE.is(17, "doomed(3)", x.doomed(3), 2047);
        DUE.is(13, "order(0)", x.order(0), 11);
        DUE.is(8, "value(0)", x.value(0), 11);
        DUE.is(16, "triple(0, 0)", x.triple(0, 0), SkewEdges.NONE);
    }

    private static void orderOfTwoAheadOfOne() {
        SkewEdges x = new SkewEdges();
        x.begin();
        x.begin();
        x.begin();
        x.write(0, 0, 1);
        x.read(1, 0);
        x.read(2, 0);
        x.commit(0);
        x.commit(1);
        x.commit(2);
        int[] order = {1, 2, 0};
        for (int place = 0; place < 3; place++) {
            DUE.is(13, "order(" + place + ")", x.order(place), order[place]);
        }
    }

    private static void orderByReaders() {
        SkewEdges x = new SkewEdges();
        x.begin();
        x.begin();
        x.begin();
        x.write(0, 0, 1);
        x.read(1, 0);
        x.read(2, 1);
        x.commit(0);
        x.commit(1);
        DUE.is(13, "order(0)", x.order(0), 1);
        DUE.is(13, "order(1)", x.order(1), 0);
        DUE.is(13, "order(2), active", x.order(2), SkewEdges.NO_SUCH);
        x.commit(2);
        DUE.is(13, "order(0), the lowest number", x.order(0), 1);
        DUE.is(13, "order(1), the lowest number", x.order(1), 0);
        DUE.is(13, "order(2)", x.order(2), 2);
    }

    private static void orderByWriters() {
        SkewEdges x = new SkewEdges();
        x.begin();
        x.begin();
        x.read(0, 9);
        x.write(1, 9, 1);
        x.write(1, 3, 1);
        x.commit(1);
        x.begin();
        x.read(2, 3);
        x.write(2, 3, 2);
        x.commit(2);
        x.begin();
        x.write(3, 3, 3);
        x.commit(3);
        x.commit(0);
        int[] order = {0, 1, 2, 3};
        for (int place = 0; place < 4; place++) {
            DUE.is(13, "order(" + place + ")", x.order(place), order[place]);
        }
    }

    private static void orderByThoseWhoSaw() {
        SkewEdges x = new SkewEdges();
        x.begin();
        x.begin();
        x.write(1, 3, 1);
        x.commit(1);
        x.begin();
        x.read(2, 3);
        x.write(0, 7, 1);
        x.commit(2);
        x.begin();
        x.read(3, 7);
        x.commit(3);
        x.commit(0);
        int[] order = {1, 2, 3, 0};
        for (int place = 0; place < 4; place++) {
            DUE.is(13, "order(" + place + ")", x.order(place), order[place]);
        }
    }

    private static void orderErrors() {
        SkewEdges x = new SkewEdges();
        DUE.is(13, "order(0) of none", x.order(0), SkewEdges.NO_SUCH);
        x.begin();
        x.commit(0);
        DUE.is(13, "order(0)", x.order(0), 0);
        DUE.is(13, "order(1)", x.order(1), SkewEdges.NO_SUCH);
        DUE.is(13, "order(-1)", x.order(-1), SkewEdges.NO_SUCH);
        DUE.is(13, "order(MAX)", x.order(Integer.MAX_VALUE), SkewEdges.NO_SUCH);
        DUE.is(13, "order(MIN)", x.order(Integer.MIN_VALUE), SkewEdges.NO_SUCH);
    }

    private static void sees() {
        SkewEdges x = new SkewEdges();
        x.begin();
        DUE.is(14, "sees(0, 6)", x.sees(0, 6), SkewEdges.NONE);
        x.write(0, 6, 1);
        DUE.is(14, "sees(0, 6) of its own", x.sees(0, 6), 0);
        x.begin();
        x.commit(0);
        DUE.is(14, "sees(1, 6) of what came behind", x.sees(1, 6), SkewEdges.NONE);
        x.begin();
        DUE.is(14, "sees(2, 6)", x.sees(2, 6), 0);
        x.write(2, 6, 2);
        DUE.is(14, "sees(2, 6) of its own", x.sees(2, 6), 2);
        x.abort(2);
        x.begin();
        DUE.is(14, "sees(3, 6) over an aborted one", x.sees(3, 6), 0);
        DUE.is(14, "of(3, 3), nothing was read", x.of(3, 3), 0);
        DUE.is(14, "sees(4, 0)", x.sees(4, 0), SkewEdges.NO_SUCH);
        DUE.is(14, "sees(-1, 0)", x.sees(-1, 0), SkewEdges.NO_SUCH);
        DUE.is(14, "sees(0, 16)", x.sees(0, 16), SkewEdges.NO_SUCH);
        DUE.is(14, "sees(0, -1)", x.sees(0, -1), SkewEdges.NO_SUCH);
    }
}
