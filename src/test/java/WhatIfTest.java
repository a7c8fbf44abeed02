/** Promises 15 to 17: would, triple, doomed. */
public final class WhatIfTest {
    private static final Due DUE = new Due();

    public static void main(String[] args) {
        would();
        triple();
        tripleOfSeveral();
        tripleBehindALaterWriter();
        doomed();
        DUE.end();
    }

    /** 0 reads behind the back of 1, and 1 behind that of 2; 3 writes what 2 writes. */
    private static SkewEdges chain(int rule) {
        SkewEdges x = new SkewEdges();
        x.rule(rule);
        for (int i = 0; i < 4; i++) {
            x.begin();
        }
        x.read(0, 0);
        x.write(1, 0, 1);
        x.read(1, 1);
        x.write(2, 1, 2);
        x.write(3, 1, 3);
        return x;
    }

    private static void would() {
        SkewEdges x = chain(1);
        DUE.is(15, "would(3) ahead of the commits", x.would(3), 0);
        x.commit(2);
        DUE.is(15, "would(1)", x.would(1), 0);
        x.commit(1);
        DUE.is(15, "would(0)", x.would(0), 2);
        DUE.is(15, "would(3)", x.would(3), 1);
        DUE.is(15, "of(0, 0), nothing changes", x.of(0, 0), 0);
        DUE.is(15, "count(4), nothing changes", x.count(4), 6);
        x.rule(3);
        DUE.is(15, "would(0) by rule 3", x.would(0), 0);
        DUE.is(15, "would(1), committed", x.would(1), SkewEdges.NOT_POSSIBLE);
        x.abort(0);
        DUE.is(15, "would(0), aborted", x.would(0), SkewEdges.NOT_POSSIBLE);
        DUE.is(15, "would(4)", x.would(4), SkewEdges.NO_SUCH);
        DUE.is(15, "would(-1)", x.would(-1), SkewEdges.NO_SUCH);
    }

    private static void triple() {
        SkewEdges x = chain(1);
        x.commit(2);
        DUE.is(16, "triple(1, 0), not refused", x.triple(1, 0), SkewEdges.NONE);
        x.commit(1);
        for (int what = 0; what < 3; what++) {
            DUE.is(16, "triple(0, " + what + ")", x.triple(0, what), what);
            DUE.is(16, "triple(3, " + what + "), refused with 1", x.triple(3, what), SkewEdges.NONE);
        }
        DUE.is(16, "triple(0, 3)", x.triple(0, 3), SkewEdges.BAD_VALUE);
        DUE.is(16, "triple(0, -1)", x.triple(0, -1), SkewEdges.BAD_VALUE);
        DUE.is(16, "triple(1, 3), committed", x.triple(1, 3), SkewEdges.BAD_VALUE);
        DUE.is(16, "triple(1, 0), committed", x.triple(1, 0), SkewEdges.NOT_POSSIBLE);
        DUE.is(16, "triple(4, 3)", x.triple(4, 3), SkewEdges.NO_SUCH);
        DUE.is(16, "triple(-1, 0)", x.triple(-1, 0), SkewEdges.NO_SUCH);
        x.rule(2);
        DUE.is(16, "triple(0, 0) by rule 2", x.triple(0, 0), SkewEdges.NONE);
    }

    /** Edges lead from 0 and 1 to 3, and from 3 to 1 and 2; 4, which 3 has an edge to, too, stays active. */
    private static void tripleOfSeveral() {
        SkewEdges x = new SkewEdges();
        x.rule(0);
        for (int i = 0; i < 5; i++) {
            x.begin();
        }
        x.read(0, 0);
        x.read(1, 0);
        x.write(1, 1, 1);
        x.write(4, 1, 1);
        x.write(2, 2, 1);
        x.write(3, 0, 1);
        x.read(3, 1);
        x.read(3, 2);
        x.commit(0);
        x.commit(1);
        x.commit(2);
        DUE.is(16, "triple(3, 1), P", x.triple(3, 1), 1);
        DUE.is(16, "triple(3, 0), A", x.triple(3, 0), 3);
        DUE.is(16, "triple(3, 2), C", x.triple(3, 2), 3);
        x.rule(1);
        DUE.is(16, "triple(3, 1) by rule 1, P", x.triple(3, 1), 3);
        DUE.is(16, "triple(3, 0) by rule 1, A", x.triple(3, 0), 1);
        DUE.is(16, "triple(3, 2) by rule 1, C", x.triple(3, 2), 1);
        DUE.is(16, "commit(3)", x.commit(3), 2);
    }

    private static void tripleBehindALaterWriter() {
        SkewEdges x = new SkewEdges();
        x.begin();
        x.begin();
        x.read(0, 0);
        x.read(1, 0);
        x.write(0, 0, 1);
        x.write(1, 0, 1);
        x.commit(0);
        DUE.is(16, "would(1)", x.would(1), 1);
        DUE.is(16, "triple(1, 0)", x.triple(1, 0), SkewEdges.NONE);
    }

    private static void doomed() {
        SkewEdges x = chain(3);
        DUE.is(17, "doomed(0) ahead of the commits", x.doomed(0), 0);
        x.commit(2);
        x.commit(1);
        DUE.is(17, "doomed(0)", x.doomed(0), 9);
        DUE.is(17, "doomed(1)", x.doomed(1), 9);
        DUE.is(17, "doomed(2)", x.doomed(2), 8);
        DUE.is(17, "doomed(3)", x.doomed(3), 8);
        DUE.is(17, "count(5), nothing changes", x.count(5), 3);
        DUE.is(17, "count(1), nothing changes", x.count(1), 9);
        x.abort(3);
        DUE.is(17, "doomed(0), active ones alone", x.doomed(0), 1);
        DUE.is(17, "doomed(4)", x.doomed(4), SkewEdges.BAD_VALUE);
        DUE.is(17, "doomed(-1)", x.doomed(-1), SkewEdges.BAD_VALUE);
        DUE.is(17, "doomed(MIN)", x.doomed(Integer.MIN_VALUE), SkewEdges.BAD_VALUE);
    }
}
