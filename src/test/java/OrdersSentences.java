/** The sentences of "Orders": dependencies, what is serial, the order, safe snapshots. */
final class OrdersSentences {
    private static final String PLACE = "Orders";

    private final Due due;

    OrdersSentences(Due due) {
        this.due = due;
    }

    void run() {
        behindTheWriterAhead();
        behindTheWriterInARing();
        behindTheOneItSaw();
        behindTheOneItSawInARing();
        aheadOfTheNextWriter();
        aheadOfTheNextWriterAlone();
        whatIsCommittedAlone();
        serialOverOthers();
        notSerial();
        notSerialNoMore();
        lowestNumberNext();
        lowestNumberOfTwelve();
        safeSnapshot();
        safeSnapshotOfTheOthersActiveAtItsBegin();
        safeSnapshotByTheMomentOfTheCommit();
        safeSnapshotWithAnEdgeToAnActiveOne();
        noSafeSnapshot();
        notKnownYet();
    }

    private void order(SkewEdges x, int... order) {
        for (int place = 0; place < order.length; place++) {
            due.is("order(" + place + ")", x.order(place), order[place]);
        }
        due.is("order(" + order.length + ")", x.order(order.length), -1);
    }

    /**
     * 3 has read what 1 writes, and 1 what 0 writes: so the order is 3, 1, 0. 2 begins behind the commit of 0, and is
     * the first one in the order unless something leads from 0 to it.
     */
    private static SkewEdges threeToOneToNought() {
        SkewEdges x = new SkewEdges();
        x.rule(3);
        x.begin();
        x.begin();
        x.write(0, 0, 1);
        x.write(0, 1, 1);
        x.read(1, 1);
        x.commit(0);
        x.begin();
        x.begin();
        x.read(3, 2);
        x.write(1, 2, 1);
        return x;
    }

    private static void commitTheRest(SkewEdges x) {
        x.commit(1);
        x.commit(2);
        x.commit(3);
    }

    private void behindTheWriterAhead() {
        due.holds(PLACE, "What is committed has these dependencies: from a transaction to another one that wrote the next "
            + "version of a key that it wrote a version of;");
        SkewEdges x = threeToOneToNought();
        x.write(2, 5, 1);
        commitTheRest(x);
        order(x, 2, 3, 1, 0);
        SkewEdges y = threeToOneToNought();
        y.write(2, 0, 2);
        commitTheRest(y);
        order(y, 3, 1, 0, 2);
    }

    /** 0 has read what 1 writes, and 2 what 0 writes; what leads from 1 to 2 is given by the key that 2 writes. */
    private static SkewEdges ring(int keyOf2) {
        SkewEdges x = new SkewEdges();
        x.rule(3);
        x.begin();
        x.begin();
        x.read(0, 4);
        x.write(1, 4, 1);
        x.commit(1);
        x.begin();
        x.read(2, 5);
        x.write(2, keyOf2, 2);
        x.commit(2);
        x.write(0, 5, 3);
        x.commit(0);
        return x;
    }

    private void behindTheWriterInARing() {
        due.holds(PLACE, "from a transaction to another one that wrote the next version of a key that it wrote a version of;");
        order(ring(3), 2, 0, 1);
        due.is("count(9), another key", ring(3).count(9), 1);
        due.is("count(9), the next version", ring(4).count(9), 0);
    }

    private void behindTheOneItSaw() {
        due.holds(PLACE, "from one that wrote a version of a key to one that saw this version as it read the key");
        SkewEdges x = threeToOneToNought();
        x.read(2, 5);
        commitTheRest(x);
        order(x, 2, 3, 1, 0);
        SkewEdges y = threeToOneToNought();
        y.read(2, 0);
        commitTheRest(y);
        order(y, 3, 1, 0, 2);
        SkewEdges z = threeToOneToNought();
        z.sees(2, 0);
        z.value(0);
        commitTheRest(z);
        order(z, 2, 3, 1, 0);
    }

    /** 0 has read what 1 writes, and 2 what 0 writes; 2 has also read what 1 wrote, or another key. */
    private void behindTheOneItSawInARing() {
        due.holds(PLACE, "(had read, as above);");
        for (boolean ring : new boolean[] {true, false}) {
            SkewEdges x = new SkewEdges();
            x.rule(3);
            x.begin();
            x.begin();
            x.read(0, 1);
            x.write(1, 1, 1);
            x.commit(1);
            x.begin();
            x.read(2, 0);
            x.read(2, ring ? 1 : 2);
            x.write(0, 0, 1);
            x.commit(2);
            x.commit(0);
            due.is("count(9)", x.count(9), ring ? 0 : 1);
        }
    }

    private void aheadOfTheNextWriter() {
        due.holds(PLACE, "from one that has read a key to the one that wrote the next version behind the one that it saw.");
        SkewEdges x = new SkewEdges();
        x.begin();
        x.begin();
        x.write(0, 0, 1);
        x.read(1, 0);
        x.commit(0);
        x.commit(1);
        order(x, 1, 0);
        SkewEdges y = new SkewEdges();
        y.begin();
        y.begin();
        y.write(0, 0, 1);
        y.write(1, 0, 2);
        y.read(1, 0);
        y.commit(1);
        due.is("commit(0)", y.commit(0), 1);
        order(y, 1);
    }

    /** 3 sees the first one of four versions: it stands between 1, who wrote it, and 2, 4, 5. */
    private void aheadOfTheNextWriterAlone() {
        due.holds(PLACE, "the next version behind the one that it saw.");
        SkewEdges x = new SkewEdges();
        x.begin();
        x.begin();
        x.write(1, 0, 1);
        x.commit(1);
        x.begin();
        x.begin();
        x.write(2, 0, 2);
        x.read(3, 0);
        x.commit(2);
        for (int number = 4; number < 6; number++) {
            x.begin();
            x.write(number, 0, number);
            x.commit(number);
        }
        x.commit(3);
        x.commit(0);
        order(x, 0, 1, 3, 2, 4, 5);
    }

    private void whatIsCommittedAlone() {
        due.holds(PLACE, "What is committed has these dependencies:");
        SkewEdges x = new SkewEdges();
        x.begin();
        x.begin();
        x.read(0, 0);
        x.read(1, 1);
        x.write(0, 1, 1);
        x.write(1, 0, 1);
        due.is("count(9), both active", x.count(9), 1);
        x.commit(0);
        due.is("count(9), one active", x.count(9), 1);
        order(x, 0);
        x.commit(1);
        due.is("count(9), one refused", x.count(9), 1);
        order(x, 0);
    }

    private void serialOverOthers() {
        due.holds(PLACE, "All is serial if no dependencies lead from a transaction, over others, back to it.");
        SkewEdges x = new SkewEdges();
        due.is("count(9) of a new object", x.count(9), 1);
        x.begin();
        x.read(0, 0);
        x.write(0, 0, 1);
        x.commit(0);
        due.is("count(9), it wrote the next version behind the one it saw", x.count(9), 1);
        order(x, 0);
        x.begin();
        x.read(1, 0);
        x.write(1, 0, 2);
        x.commit(1);
        due.is("count(9), two of them", x.count(9), 1);
        order(x, 0, 1);
    }

    /** As many as are given, each of whom has read what the next one writes, the last one what the first one writes. */
    private static SkewEdges ringOf(int many) {
        SkewEdges x = new SkewEdges();
        x.rule(3);
        for (int number = 0; number < many; number++) {
            x.begin();
        }
        for (int number = 0; number < many; number++) {
            x.read(number, number);
            x.write(number, (number + many - 1) % many, 1);
        }
        return x;
    }

    private void notSerial() {
        due.holds(PLACE, "All is serial if no dependencies lead from a transaction, over others, back to it.");
        for (int many : new int[] {2, 3, 11, 12}) {
            SkewEdges x = ringOf(many);
            for (int number = 0; number < many; number++) {
                due.is("count(9), the ring of " + many + " is open at " + number, x.count(9), 1);
                due.is("commit(" + number + ")", x.commit(number), 0);
            }
            due.is("count(9), a ring of " + many, x.count(9), 0);
            due.is("order(0)", x.order(0), -5);
            due.is("order(" + (many - 1) + ")", x.order(many - 1), -5);
            due.is("order(" + many + ")", x.order(many), -1);
        }
    }

    private void notSerialNoMore() {
        due.holds(PLACE, "All is serial if no dependencies lead from a transaction,");
        SkewEdges z = new SkewEdges();
        z.rule(3);
        z.begin();
        z.begin();
        z.save(0);
        z.read(0, 0);
        z.read(1, 1);
        z.write(0, 1, 1);
        z.write(1, 0, 1);
        z.commit(0);
        z.commit(1);
        due.is("count(9), a ring of two", z.count(9), 0);
        z.restore(0);
        z.commit(0);
        z.commit(1);
        due.is("count(9), the same two have done nothing", z.count(9), 1);
        order(z, 0, 1);
    }

    private void lowestNumberNext() {
        due.holds(PLACE, "Then there is an order: of the committed transactions that are not in it yet, and which no other "
            + "of these has a dependency to, always the one with the lowest number is next.");
        SkewEdges x = new SkewEdges();
        for (int number = 0; number < 6; number++) {
            x.begin();
        }
        x.write(1, 0, 1);
        x.read(4, 0);
        x.write(0, 1, 1);
        x.read(3, 1);
        x.abort(2);
        for (int number : new int[] {1, 4, 0, 3}) {
            due.is("commit(" + number + ")", x.commit(number), 0);
        }
        order(x, 3, 0, 4, 1);
        x.undo();
        order(x, 0, 4, 1);
        x.commit(5);
        x.commit(3);
        order(x, 3, 0, 4, 1, 5);
    }

    private void lowestNumberOfTwelve() {
        due.holds(PLACE, "always the one with the lowest number is next.");
        SkewEdges x = new SkewEdges();
        for (int number = 0; number < 12; number++) {
            x.begin();
        }
        for (int number = 11; number >= 0; number--) {
            x.commit(number);
        }
        order(x, 0, 1, 2, 3, 4, 5, 6, 7, 8, 9, 10, 11);
        SkewEdges y = ringOf(12);
        for (int number = 11; number > 0; number--) {
            y.commit(number);
        }
        order(y, 1, 2, 3, 4, 5, 6, 7, 8, 9, 10, 11);
    }

    private static final String SAFE = "A transaction that has written no key has a safe snapshot (1) if all others that "
        + "were active at its begin have ended, and none of them was committed with an edge to one that was committed "
        + "ahead of its begin (an edge as told above);";

    private void safeSnapshot() {
        due.holds(PLACE, SAFE);
        SkewEdges x = new SkewEdges();
        x.begin();
        due.is("of(0, 8), there are no others", x.of(0, 8), 1);
        x.begin();
        due.is("of(0, 8), others have begun behind it", x.of(0, 8), 1);
        due.is("of(1, 8)", x.of(1, 8), 2);
        x.commit(0);
        due.is("of(0, 8), committed", x.of(0, 8), 1);
        due.is("of(1, 8)", x.of(1, 8), 1);
        x.begin();
        due.is("of(2, 8)", x.of(2, 8), 2);
        x.write(2, 0, 0);
        due.is("of(2, 8), it has written a key", x.of(2, 8), -6);
        x.abort(1);
        due.is("of(2, 8), it has written a key", x.of(2, 8), -6);
        due.is("of(1, 8), aborted", x.of(1, 8), -6);
    }

    private void safeSnapshotOfTheOthersActiveAtItsBegin() {
        due.holds(PLACE, "if all others that were active at its begin have ended,");
        SkewEdges x = new SkewEdges();
        x.begin();
        x.begin();
        x.read(0, 0);
        x.write(1, 0, 1);
        x.commit(1);
        x.commit(0);
        x.begin();
        due.is("of(2, 8), the one with the edge had ended ahead of its begin", x.of(2, 8), 1);
        x.read(2, 1);
        x.begin();
        x.write(3, 1, 1);
        due.is("of(2, 8), one begun behind it is active", x.of(2, 8), 1);
        x.commit(3);
        x.begin();
        due.is("of(4, 8), one is active", x.of(4, 8), 2);
        x.commit(2);
        due.is("of(2, 8), its own edge", x.of(2, 8), 1);
        due.is("of(4, 8), the last one ended with an edge", x.of(4, 8), 0);
    }

    /** 0 has read what 1 writes; 1 is committed a moment ahead of the begin of 2, or a moment behind it. */
    private static SkewEdges beside(boolean ahead) {
        SkewEdges x = new SkewEdges();
        x.begin();
        x.begin();
        x.read(0, 0);
        x.write(1, 0, 1);
        if (ahead) {
            x.commit(1);
        }
        x.begin();
        if (!ahead) {
            x.commit(1);
        }
        return x;
    }

    private void safeSnapshotByTheMomentOfTheCommit() {
        due.holds(PLACE, "with an edge to one that was committed ahead of its begin (an edge as told above);");
        SkewEdges x = beside(true);
        x.commit(0);
        due.is("of(2, 8), committed a moment ahead of its begin", x.of(2, 8), 0);
        SkewEdges y = beside(false);
        y.commit(0);
        due.is("of(2, 8), committed a moment behind its begin", y.of(2, 8), 1);
        SkewEdges z = beside(true);
        z.abort(0);
        due.is("of(2, 8), the one with the edge is aborted", z.of(2, 8), 1);
        SkewEdges late = new SkewEdges();
        late.begin();
        late.begin();
        late.write(1, 0, 1);
        late.commit(1);
        late.begin();
        late.read(0, 0);
        late.commit(0);
        due.is("of(2, 8), the edge came behind its begin", late.of(2, 8), 0);
    }

    private void safeSnapshotWithAnEdgeToAnActiveOne() {
        due.holds(PLACE, "none of them was committed with an edge to one that was committed ahead of its begin");
        SkewEdges x = new SkewEdges();
        x.begin();
        x.begin();
        x.read(0, 0);
        x.write(1, 0, 1);
        x.begin();
        x.commit(0);
        due.is("of(2, 8), an edge to an active one", x.of(2, 8), 2);
        x.commit(1);
        due.is("of(2, 8), an edge to one committed behind its begin", x.of(2, 8), 1);
        SkewEdges y = new SkewEdges();
        y.begin();
        y.begin();
        y.read(0, 0);
        y.begin();
        y.begin();
        y.write(3, 0, 1);
        y.commit(0);
        due.is("of(2, 8), an edge to one begun behind its begin", y.of(2, 8), 2);
        y.commit(1);
        due.is("of(2, 8), the same, all others have ended", y.of(2, 8), 1);
        y.commit(3);
        due.is("of(2, 8), the same, committed", y.of(2, 8), 1);
    }

    private void noSafeSnapshot() {
        due.holds(PLACE, "it has none (0) if one of them was committed so;");
        SkewEdges x = new SkewEdges();
        x.begin();
        x.begin();
        x.begin();
        x.read(1, 3);
        x.write(2, 3, 1);
        x.commit(2);
        x.begin();
        due.is("of(3, 8), the one with the edge is active", x.of(3, 8), 2);
        x.commit(1);
        due.is("of(3, 8), another one is active", x.of(3, 8), 0);
        x.commit(3);
        due.is("of(3, 8), committed", x.of(3, 8), 0);
        x.abort(0);
        due.is("of(3, 8), all have ended", x.of(3, 8), 0);
        SkewEdges first = new SkewEdges();
        first.begin();
        first.begin();
        first.write(0, 0, 1);
        first.read(1, 0);
        first.commit(0);
        first.begin();
        due.is("of(2, 8), the first one was committed ahead of its begin", first.of(2, 8), 2);
        first.commit(1);
        due.is("of(2, 8), an edge to the first one of all", first.of(2, 8), 0);
    }

    private void notKnownYet() {
        due.holds(PLACE, "otherwise it is not known yet (2).");
        SkewEdges x = new SkewEdges();
        for (int number = 0; number < 12; number++) {
            x.begin();
        }
        for (int number = 0; number < 11; number++) {
            due.is("of(11, 8), " + (11 - number) + " are active", x.of(11, 8), 2);
            if (number % 2 == 0) {
                x.commit(number);
            } else {
                x.abort(number);
            }
        }
        due.is("of(11, 8), all others have ended", x.of(11, 8), 1);
    }
}
