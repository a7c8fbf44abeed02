/** The sentences of "Keys, transactions": versions, moments, who has read and written. */
final class KeysSentences {
    private static final String PLACE = "Keys, transactions";

    private final Due due;

    KeysSentences(Due due) {
        this.due = due;
    }

    void run() {
        sixteenKeys();
        twelveTransactions();
        activeThenCommittedOrAborted();
        timeIsCounted();
        timeStandsStill();
        versionOfNobody();
        versionOfTheMomentOfTheCommit();
        seesItsOwnLastValue();
        seesTheLatestVersionAheadOfItsBegin();
        hasReadAheadOfItsWrite();
        hasWritten();
        abortedHasReadAndWritten();
        nobodySeesWhatAnAbortedOneWrote();
    }

    private void sixteenKeys() {
        due.holds(PLACE, "There are 16 keys, 0 to 15.");
        SkewEdges x = new SkewEdges();
        x.begin();
        for (int key = 0; key < 16; key++) {
            due.is("read(0, " + key + ")", x.read(0, key), 0);
            x.write(0, key, 100 + key);
        }
        due.is("of(0, 3), all keys", x.of(0, 3), 65535);
        due.is("of(0, 4), all keys", x.of(0, 4), 65535);
        x.commit(0);
        x.begin();
        for (int key = 0; key < 16; key++) {
            due.is("value(" + key + ")", x.value(key), 100 + key);
            due.is("read(1, " + key + ")", x.read(1, key), 100 + key);
            due.is("sees(1, " + key + ")", x.sees(1, key), 0);
        }
        for (int key : new int[] {-1, 16, 17, 31, 32, 47, Integer.MAX_VALUE, Integer.MIN_VALUE}) {
            due.is("value(" + key + ")", x.value(key), -1);
            due.is("read(1, " + key + ")", x.read(1, key), -1);
            due.is("write(1, " + key + ", 0)", x.write(1, key, 0), -1);
            due.is("sees(1, " + key + ")", x.sees(1, key), -1);
        }
    }

    private void twelveTransactions() {
        due.holds(PLACE, "Up to 12 transactions are told, numbered in the order in which they began.");
        SkewEdges x = new SkewEdges();
        for (int number = 0; number < 12; number++) {
            due.is("of(" + number + ", 0) ahead of its begin", x.of(number, 0), -1);
            due.is("begin()", x.begin(), number);
            if (number % 3 == 1) {
                x.commit(number);
            } else if (number % 3 == 2) {
                x.abort(number);
            }
            due.is("count(0)", x.count(0), number + 1);
        }
        due.is("begin() of the 13th, also if others have ended", x.begin(), -4);
        due.is("read(9, 15) of the last active one", x.read(9, 15), 0);
        due.is("of(11, 1)", x.of(11, 1), 16);
        due.is("of(12, 0)", x.of(12, 0), -1);
        due.is("of(-1, 0)", x.of(-1, 0), -1);
    }

    private void activeThenCommittedOrAborted() {
        due.holds(PLACE, "A transaction is active (0), then committed (1) or aborted (2).");
        SkewEdges x = new SkewEdges();
        x.begin();
        x.begin();
        x.begin();
        x.write(0, 0, 1);
        x.write(2, 0, 1);
        due.is("of(0, 0)", x.of(0, 0), 0);
        x.commit(0);
        x.abort(1);
        x.commit(2);
        due.is("of(0, 0), committed", x.of(0, 0), 1);
        due.is("of(1, 0), aborted", x.of(1, 0), 2);
        due.is("of(2, 0), refused", x.of(2, 0), 2);
        for (int ended = 0; ended < 3; ended++) {
            due.is("commit(" + ended + ") again", x.commit(ended), -5);
            due.is("abort(" + ended + ") again", x.abort(ended), -5);
            due.is("of(" + ended + ", 0) still", x.of(ended, 0), ended == 0 ? 1 : 2);
        }
    }

    private void timeIsCounted() {
        due.holds(PLACE, "Time is counted: each begin and each commit that succeeds is one moment later than the one "
            + "before (the first one is the moment 1).");
        SkewEdges x = new SkewEdges();
        due.is("count(4) of a new object", x.count(4), 0);
        for (int number = 0; number < 12; number++) {
            x.begin();
            due.is("of(" + number + ", 1)", x.of(number, 1), 2 * number + 1);
            due.is("count(4)", x.count(4), 2 * number + 1);
            x.commit(number);
            due.is("of(" + number + ", 2)", x.of(number, 2), 2 * number + 2);
            due.is("count(4)", x.count(4), 2 * number + 2);
        }
        due.is("begin() of the 13th", x.begin(), -4);
        due.is("count(4), all of the time", x.count(4), 24);
    }

    private void timeStandsStill() {
        due.holds(PLACE, "each begin and each commit that succeeds is one moment later");
        SkewEdges x = new SkewEdges();
        x.begin();
        x.begin();
        x.begin();
        x.read(0, 0);
        x.write(0, 0, 1);
        x.write(1, 0, 1);
        x.rule(2);
        x.abort(2);
        due.is("count(4) behind read, write, rule, abort", x.count(4), 3);
        x.commit(0);
        due.is("commit(1), refused", x.commit(1), 1);
        due.is("of(1, 2), refused", x.of(1, 2), -6);
        due.is("commit(1) again", x.commit(1), -5);
        due.is("count(4) behind a commit that is refused", x.count(4), 4);
        x.begin();
        due.is("of(3, 1)", x.of(3, 1), 5);
        x.undo();
        due.is("count(4) behind undo", x.count(4), 4);
        x.begin();
        due.is("of(3, 1) again", x.of(3, 1), 5);
    }

    private void versionOfNobody() {
        due.holds(PLACE, "A key has versions: the value 0 of the moment 0, by nobody,");
        SkewEdges x = new SkewEdges();
        due.is("value(0)", x.value(0), 0);
        x.begin();
        due.is("read(0, 0) by the one of the moment 1", x.read(0, 0), 0);
        due.is("sees(0, 0)", x.sees(0, 0), -6);
        x.begin();
        x.write(1, 0, 4);
        x.commit(1);
        due.is("read(0, 0), still that of nobody", x.read(0, 0), 0);
        due.is("sees(0, 0), still nobody", x.sees(0, 0), -6);
        due.is("value(15), a key that nobody wrote", x.value(15), 0);
    }

    private void versionOfTheMomentOfTheCommit() {
        due.holds(PLACE, "and one of each committed transaction that wrote it, of the moment of its commit.");
        SkewEdges x = new SkewEdges();
        x.begin();
        x.write(0, 3, 8);
        due.is("value(3), not committed", x.value(3), 0);
        x.begin();
        x.commit(0);
        due.is("value(3), committed", x.value(3), 8);
        x.begin();
        due.is("read(1, 3), begun one moment ahead of the commit", x.read(1, 3), 0);
        due.is("read(2, 3), begun one moment behind it", x.read(2, 3), 8);
        x.write(2, 3, 0);
        x.commit(2);
        x.begin();
        due.is("value(3), a version with the value 0", x.value(3), 0);
        due.is("sees(3, 3), a version with the value 0", x.sees(3, 3), 2);
    }

    private void seesItsOwnLastValue() {
        due.holds(PLACE, "A transaction that reads a key sees the value that it wrote itself last, if it wrote it;");
        SkewEdges x = new SkewEdges();
        x.begin();
        x.write(0, 1, 5);
        x.commit(0);
        x.begin();
        due.is("read(1, 1) ahead of its write", x.read(1, 1), 5);
        x.write(1, 1, 6);
        due.is("read(1, 1)", x.read(1, 1), 6);
        x.write(1, 1, 7);
        due.is("read(1, 1), the last one", x.read(1, 1), 7);
        x.write(1, 1, 0);
        due.is("read(1, 1), also if it is 0", x.read(1, 1), 0);
        due.is("read(1, 2), another key", x.read(1, 2), 0);
        x.begin();
        due.is("read(2, 1) by another one", x.read(2, 1), 5);
    }

    private void seesTheLatestVersionAheadOfItsBegin() {
        due.holds(PLACE, "otherwise the version with the latest moment ahead of its begin.");
        SkewEdges x = new SkewEdges();
        x.begin();
        x.begin();
        for (int number = 2; number < 6; number++) {
            x.begin();
            x.write(number, 7, 10 * number);
            x.commit(number);
        }
        x.begin();
        due.is("read(1, 7), begun ahead of all versions", x.read(1, 7), 0);
        due.is("sees(3, 8)", x.sees(3, 8), -6);
        due.is("read(6, 7), begun behind four versions", x.read(6, 7), 50);
        due.is("sees(6, 7)", x.sees(6, 7), 5);
        x.begin();
        x.write(7, 7, 70);
        x.write(0, 9, 90);
        x.commit(0);
        x.begin();
        x.commit(7);
        due.is("sees(8, 7), one committed a moment behind", x.sees(8, 7), 5);
        due.is("sees(8, 9), one committed a moment ahead, begun first of all", x.sees(8, 9), 0);
        due.is("read(6, 7), still the same", x.read(6, 7), 50);
        due.is("read(6, 9)", x.read(6, 9), 0);
    }

    private void hasReadAheadOfItsWrite() {
        due.holds(PLACE, "A transaction has read a key if it read it at a time when it had not written it yet.");
        SkewEdges x = new SkewEdges();
        x.begin();
        x.write(0, 0, 1);
        x.read(0, 0);
        due.is("of(0, 3), written, then read", x.of(0, 3), 0);
        x.read(0, 1);
        x.write(0, 1, 1);
        due.is("of(0, 3), read, then written", x.of(0, 3), 2);
        x.read(0, 1);
        due.is("of(0, 3), read again", x.of(0, 3), 2);
        x.begin();
        x.read(1, 0);
        due.is("of(1, 3), written by another one", x.of(1, 3), 1);
        due.is("of(0, 3), read by another one", x.of(0, 3), 2);
    }

    private void hasWritten() {
        due.holds(PLACE, "It has written a key if it wrote it.");
        SkewEdges x = new SkewEdges();
        x.begin();
        x.read(0, 2);
        due.is("of(0, 4), it only read", x.of(0, 4), 0);
        x.write(0, 2, 0);
        due.is("of(0, 4), it wrote what was there", x.of(0, 4), 4);
        x.write(0, 2, 5);
        due.is("of(0, 4), it wrote again", x.of(0, 4), 4);
        x.write(0, 15, 5);
        due.is("of(0, 4), the last key", x.of(0, 4), 0x8004);
    }

    private void abortedHasReadAndWritten() {
        due.holds(PLACE, "(What a transaction reads and writes it has read and written also if it is aborted later;");
        SkewEdges x = new SkewEdges();
        x.begin();
        x.begin();
        for (int number = 0; number < 2; number++) {
            x.read(number, 3);
            x.write(number, 4, 1);
        }
        x.begin();
        x.write(2, 4, 1);
        x.commit(2);
        x.abort(0);
        due.is("commit(1), refused", x.commit(1), 1);
        for (int number = 0; number < 2; number++) {
            due.is("of(" + number + ", 3)", x.of(number, 3), 8);
            due.is("of(" + number + ", 4)", x.of(number, 4), 16);
        }
    }

    private void nobodySeesWhatAnAbortedOneWrote() {
        due.holds(PLACE, "nobody sees what an aborted one wrote.)");
        SkewEdges x = new SkewEdges();
        x.begin();
        x.begin();
        x.begin();
        x.write(0, 4, 1);
        x.write(1, 4, 2);
        x.write(1, 5, 2);
        x.write(2, 6, 3);
        x.commit(0);
        due.is("commit(1), refused", x.commit(1), 1);
        x.abort(2);
        x.begin();
        due.is("read(3, 4) over one that was refused", x.read(3, 4), 1);
        due.is("read(3, 5) of one that was refused", x.read(3, 5), 0);
        due.is("read(3, 6) of an aborted one", x.read(3, 6), 0);
        due.is("sees(3, 6)", x.sees(3, 6), -6);
        due.is("value(4)", x.value(4), 1);
        due.is("value(5)", x.value(5), 0);
        due.is("value(6)", x.value(6), 0);
        x.write(3, 6, 9);
        due.is("commit(3), no writer is ahead of it", x.commit(3), 0);
    }
}
