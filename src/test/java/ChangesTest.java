/** Promises 1 to 7: a new object, rule, begin, read, write, commit, abort. */
public final class ChangesTest {
    private static final Due DUE = new Due();

    public static void main(String[] args) {
        newObject();
        rule();
        begin();
        read();
        readIsNotRememberedBehindAWrite();
        write();
        commitByFirstWriter();
        commitOverOwnKeysAlone();
        commitByRule0();
        commitByRule1();
        commitByRule2();
        commitByRule3();
        commitWithTheActiveIsNoTriple();
        commitErrors();
        abort();
        DUE.end();
    }

    private static void newObject() {
        SkewEdges x = new SkewEdges();
        for (int key = 0; key < 16; key++) {
            DUE.is(1, "value(" + key + ")", x.value(key), 0);
        }
        int[] counts = {0, 0, 0, 0, 0, 1, 0, 0, 0, 1, 0, 0};
        for (int what = 0; what < 12; what++) {
            DUE.is(1, "count(" + what + ")", x.count(what), counts[what]);
        }
        DUE.is(1, "fault()", x.fault(), 0);
        DUE.is(1, "undo()", x.undo(), SkewEdges.NOT_POSSIBLE);
        DUE.is(1, "order(0)", x.order(0), SkewEdges.NO_SUCH);
    }

    private static void rule() {
        SkewEdges x = new SkewEdges();
        DUE.is(2, "rule(0)", x.rule(0), 1);
        DUE.is(2, "rule(3)", x.rule(3), 0);
        DUE.is(2, "rule(4)", x.rule(4), SkewEdges.BAD_VALUE);
        DUE.is(2, "rule(-1)", x.rule(-1), SkewEdges.BAD_VALUE);
        DUE.is(2, "rule(MAX)", x.rule(Integer.MAX_VALUE), SkewEdges.BAD_VALUE);
        DUE.is(2, "count(5)", x.count(5), 3);
        DUE.is(2, "count(11)", x.count(11), 2);
        DUE.is(2, "rule(3) again", x.rule(3), 3);
        DUE.is(2, "count(11) also if nothing is different", x.count(11), 3);
    }

    private static void begin() {
        SkewEdges x = new SkewEdges();
        for (int number = 0; number < 12; number++) {
            DUE.is(3, "begin()", x.begin(), number);
            DUE.is(3, "of(begun, 0)", x.of(number, 0), 0);
            DUE.is(3, "of(begun, 1)", x.of(number, 1), number + 1);
        }
        DUE.is(3, "begin() of the 13th", x.begin(), SkewEdges.TOO_MANY);
        DUE.is(3, "count(4)", x.count(4), 12);
        x.abort(3);
        DUE.is(3, "begin() with an aborted one", x.begin(), SkewEdges.TOO_MANY);
    }

    private static void read() {
        SkewEdges x = new SkewEdges();
        DUE.is(4, "read(0, 0) of nobody", x.read(0, 0), SkewEdges.NO_SUCH);
        x.begin();
        x.write(0, 15, 7);
        x.begin();
        DUE.is(4, "read(1, 15) ahead of the commit", x.read(1, 15), 0);
        DUE.is(4, "read(0, 15) of its own", x.read(0, 15), 7);
        x.commit(0);
        DUE.is(4, "read(1, 15) behind the commit", x.read(1, 15), 0);
        x.begin();
        DUE.is(4, "read(2, 15) begun behind the commit", x.read(2, 15), 7);
        x.write(2, 15, 8);
        x.begin();
        x.commit(2);
        DUE.is(4, "read(3, 15) of the older version", x.read(3, 15), 7);
        x.begin();
        DUE.is(4, "read(4, 15) of the latest version", x.read(4, 15), 8);
        DUE.is(4, "of(4, 3)", x.of(4, 3), 1 << 15);
        x.begin();
        x.write(5, 1, 9);
        x.abort(5);
        x.begin();
        DUE.is(4, "read(6, 1) of an aborted one's", x.read(6, 1), 0);
        DUE.is(4, "read(5, 1) by an aborted one", x.read(5, 1), SkewEdges.NOT_POSSIBLE);
        DUE.is(4, "read(0, 0) by a committed one", x.read(0, 0), SkewEdges.NOT_POSSIBLE);
        DUE.is(4, "read(0, 16) of no key", x.read(0, 16), SkewEdges.NO_SUCH);
        DUE.is(4, "read(6, -1)", x.read(6, -1), SkewEdges.NO_SUCH);
        DUE.is(4, "read(7, 0)", x.read(7, 0), SkewEdges.NO_SUCH);
        DUE.is(4, "read(-1, 0)", x.read(-1, 0), SkewEdges.NO_SUCH);
        DUE.is(4, "read(MIN, MIN)", x.read(Integer.MIN_VALUE, Integer.MIN_VALUE), SkewEdges.NO_SUCH);
    }

    private static void readIsNotRememberedBehindAWrite() {
        SkewEdges x = new SkewEdges();
        x.begin();
        x.write(0, 2, 5);
        DUE.is(4, "read(0, 2)", x.read(0, 2), 5);
        DUE.is(4, "of(0, 3) behind the write", x.of(0, 3), 0);
        x.read(0, 3);
        x.write(0, 3, 6);
        DUE.is(4, "of(0, 3) ahead of the write", x.of(0, 3), 8);
    }

    private static void write() {
        SkewEdges x = new SkewEdges();
        DUE.is(5, "write(0, 0, 0) of nobody", x.write(0, 0, 0), SkewEdges.NO_SUCH);
        x.begin();
        DUE.is(5, "write(0, 0, 0)", x.write(0, 0, 0), 1);
        DUE.is(5, "write(0, 15, 999)", x.write(0, 15, 999), 0x8001);
        DUE.is(5, "write(0, 15, 998)", x.write(0, 15, 998), 0x8001);
        DUE.is(5, "read(0, 15)", x.read(0, 15), 998);
        DUE.is(5, "write(0, 16, 1000)", x.write(0, 16, 1000), SkewEdges.NO_SUCH);
        DUE.is(5, "write(0, -1, 0)", x.write(0, -1, 0), SkewEdges.NO_SUCH);
        DUE.is(5, "write(1, 0, -1)", x.write(1, 0, -1), SkewEdges.NO_SUCH);
        DUE.is(5, "write(0, 1, 1000)", x.write(0, 1, 1000), SkewEdges.BAD_VALUE);
        DUE.is(5, "write(0, 1, -1)", x.write(0, 1, -1), SkewEdges.BAD_VALUE);
        x.commit(0);
        DUE.is(5, "write(0, 1, 1000) by a committed one", x.write(0, 1, 1000), SkewEdges.BAD_VALUE);
        DUE.is(5, "write(0, 1, 1) by a committed one", x.write(0, 1, 1), SkewEdges.NOT_POSSIBLE);
        DUE.is(5, "of(0, 4)", x.of(0, 4), 0x8001);
    }

    private static void commitByFirstWriter() {
        SkewEdges x = new SkewEdges();
        x.begin();
        x.begin();
        x.write(0, 4, 1);
        x.write(1, 4, 2);
        DUE.is(6, "commit(1), the first writer", x.commit(1), 0);
        DUE.is(6, "of(1, 2)", x.of(1, 2), 3);
        DUE.is(6, "commit(0), the later writer", x.commit(0), 1);
        DUE.is(6, "of(0, 0)", x.of(0, 0), 2);
        DUE.is(6, "of(0, 7)", x.of(0, 7), 1);
        DUE.is(6, "of(0, 2)", x.of(0, 2), SkewEdges.NONE);
        DUE.is(6, "count(4), a refused one takes no moment", x.count(4), 3);
        DUE.is(6, "value(4)", x.value(4), 2);
        x.begin();
        x.write(2, 4, 3);
        DUE.is(6, "commit(2), begun behind the first writer", x.commit(2), 0);
        DUE.is(6, "value(4)", x.value(4), 3);
    }

    private static void commitOverOwnKeysAlone() {
        SkewEdges x = new SkewEdges();
        x.begin();
        x.begin();
        x.write(0, 4, 1);
        x.write(1, 4, 2);
        x.abort(0);
        DUE.is(6, "commit(1) over an aborted writer", x.commit(1), 0);
        x.begin();
        DUE.is(6, "commit(2) of one that did nothing", x.commit(2), 0);
        DUE.is(6, "count(4)", x.count(4), 5);
    }

    /** A is 0, P is 1, C is 2; they are committed in the order that is given. */
    private static int lastCommit(int rule, boolean writes, int... order) {
        SkewEdges x = chain(rule, writes);
        int answer = 0;
        for (int transaction : order) {
            DUE.is(6, "commit ahead of the last one", answer, 0);
            answer = x.commit(transaction);
        }
        return answer;
    }

    private static SkewEdges chain(int rule, boolean writes) {
        SkewEdges x = new SkewEdges();
        x.rule(rule);
        x.begin();
        x.begin();
        x.begin();
        x.read(0, 0);
        x.write(1, 0, 1);
        x.read(1, 1);
        x.write(2, 1, 2);
        if (writes) {
            x.write(0, 9, 1);
        }
        return x;
    }

    private static void commitByRule0() {
        DUE.is(6, "rule 0: A, P, C", lastCommit(0, true, 0, 1, 2), 2);
        DUE.is(6, "rule 0: A, C, P", lastCommit(0, true, 0, 2, 1), 2);
        DUE.is(6, "rule 0: P, C, A", lastCommit(0, true, 1, 2, 0), 2);
        DUE.is(6, "rule 0: C, P, A", lastCommit(0, false, 2, 1, 0), 2);
    }

    private static void commitByRule1() {
        DUE.is(6, "rule 1: C, P, A", lastCommit(1, true, 2, 1, 0), 2);
        DUE.is(6, "rule 1: C, A, P", lastCommit(1, true, 2, 0, 1), 2);
        DUE.is(6, "rule 1: A, C, P", lastCommit(1, true, 0, 2, 1), 0);
        DUE.is(6, "rule 1: P, C, A", lastCommit(1, true, 1, 2, 0), 0);
        DUE.is(6, "rule 1: A, P, C", lastCommit(1, true, 0, 1, 2), 0);
        DUE.is(6, "rule 1: C, P, A that only reads", lastCommit(1, false, 2, 1, 0), 2);
    }

    private static void commitByRule2() {
        DUE.is(6, "rule 2: C, P, A", lastCommit(2, true, 2, 1, 0), 2);
        DUE.is(6, "rule 2: C, P, A that only reads", lastCommit(2, false, 2, 1, 0), 0);
        DUE.is(6, "rule 2: C, A that only reads, P", lastCommit(2, false, 2, 0, 1), 0);
        SkewEdges x = new SkewEdges();
        x.rule(2);
        x.begin();
        x.begin();
        x.read(0, 1);
        x.write(0, 0, 1);
        x.write(1, 1, 2);
        DUE.is(6, "commit(1), C", x.commit(1), 0);
        x.begin();
        x.read(2, 0);
        DUE.is(6, "commit(2), A that began behind C's commit", x.commit(2), 0);
        DUE.is(6, "commit(0), P", x.commit(0), 2);
        DUE.is(6, "of(0, 7)", x.of(0, 7), 2);
    }

    private static void commitByRule3() {
        DUE.is(6, "rule 3: C, P, A", lastCommit(3, true, 2, 1, 0), 0);
        SkewEdges x = new SkewEdges();
        x.rule(3);
        x.begin();
        x.begin();
        x.write(0, 0, 1);
        x.write(1, 0, 1);
        x.commit(0);
        DUE.is(6, "rule 3: the later writer", x.commit(1), 1);
    }

    private static void commitWithTheActiveIsNoTriple() {
        DUE.is(6, "rule 0: A stays active", lastCommit(0, true, 2, 1), 0);
        DUE.is(6, "rule 0: P stays active", lastCommit(0, true, 2, 0), 0);
        SkewEdges x = chain(0, true);
        x.commit(2);
        x.abort(1);
        DUE.is(6, "rule 0: P is aborted", x.commit(0), 0);
    }

    private static void commitErrors() {
        SkewEdges x = new SkewEdges();
        DUE.is(6, "commit(0)", x.commit(0), SkewEdges.NO_SUCH);
        x.begin();
        x.begin();
        DUE.is(6, "commit(-1)", x.commit(-1), SkewEdges.NO_SUCH);
        DUE.is(6, "commit(2)", x.commit(2), SkewEdges.NO_SUCH);
        DUE.is(6, "commit(MAX)", x.commit(Integer.MAX_VALUE), SkewEdges.NO_SUCH);
        x.commit(0);
        x.abort(1);
        DUE.is(6, "commit(0) again", x.commit(0), SkewEdges.NOT_POSSIBLE);
        DUE.is(6, "commit(1), aborted", x.commit(1), SkewEdges.NOT_POSSIBLE);
        DUE.is(6, "count(11)", x.count(11), 4);
    }

    private static void abort() {
        SkewEdges x = new SkewEdges();
        DUE.is(7, "abort(0)", x.abort(0), SkewEdges.NO_SUCH);
        x.begin();
        x.begin();
        x.begin();
        x.read(1, 3);
        x.write(1, 4, 5);
        DUE.is(7, "abort(1)", x.abort(1), 2);
        DUE.is(7, "of(1, 0)", x.of(1, 0), 2);
        DUE.is(7, "of(1, 7)", x.of(1, 7), 0);
        DUE.is(7, "of(1, 3)", x.of(1, 3), 8);
        DUE.is(7, "of(1, 4)", x.of(1, 4), 16);
        DUE.is(7, "count(4)", x.count(4), 3);
        DUE.is(7, "abort(1) again", x.abort(1), SkewEdges.NOT_POSSIBLE);
        x.commit(0);
        DUE.is(7, "abort(0), committed", x.abort(0), SkewEdges.NOT_POSSIBLE);
        DUE.is(7, "abort(2)", x.abort(2), 0);
        DUE.is(7, "abort(3)", x.abort(3), SkewEdges.NO_SUCH);
        DUE.is(7, "abort(-1)", x.abort(-1), SkewEdges.NO_SUCH);
    }
}
