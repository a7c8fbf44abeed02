/** The sentences of the promises 22 to 24: undo, save, restore. */
final class UndoSentences {
    private static final int MAX = Integer.MAX_VALUE, MIN = Integer.MIN_VALUE;

    private final Due due;

    UndoSentences(Due due) {
        this.due = due;
    }

    void run() {
        undoesEachChange();
        undoesMoments();
        undoesAllOfTheLastTransaction();
        undoLeavesThePad();
        undoLeavesTheSlots();
        undoLeavesTheHistory();
        sixStates();
        eachChangeRecords();
        noOtherCallRecords();
        errorsRecordNothing();
        recordsAlsoIfNothingIsDifferent();
        theOldestOneIsDropped();
        theHistoryTurnsOften();
        anOrderRecordsNothing();
        undoReturnsHowMany();
        undoOfNone();
        save();
        saveLeavesPadAndHistory();
        saveOverwrites();
        saveSlots();
        saveReturnsHowMany();
        saveOfNoSlot();
        restore();
        restoreKeepsTheSlot();
        restoreLeavesPadAndHistory();
        restoreIsAChange();
        restoreSlots();
        restoreReturnsHowMany();
        restoreOfNoSlot();
        restoreOfNothing();
    }

    private interface Change {
        int on(SkewEdges x);
    }

    /** One change of each kind, for an object as middle() makes it. */
    private static final Change[] CHANGES = {x -> x.rule(2), SkewEdges::begin, x -> x.read(0, 9), x -> x.write(0, 9, 9),
        x -> x.write(0, 3, 9), x -> x.commit(0), x -> x.commit(1), x -> x.commit(2), x -> x.abort(0), x -> x.restore(0),
        x -> x.restore(1), SkewEdges::carryOut};

    /** 0, 1 and 2 are active: 0 is fine, 1 would be refused for 2, and 2 for 1; 3 is committed. Six changes are kept. */
    private static SkewEdges middle() {
        SkewEdges x = new SkewEdges();
        x.save(0);
        for (int number = 0; number < 4; number++) {
            x.begin();
        }
        x.write(0, 3, 3);
        x.save(1);
        x.read(3, 0);
        x.read(1, 1);
        x.write(3, 1, 1);
        x.write(1, 0, 1);
        x.write(2, 1, 1);
        x.commit(3);
        Due.put(x, "b;b;r4.1;c0");
        return x;
    }

    private void undoesEachChange() {
        due.holds("Promise 22", "`int undo()`: Undoes the latest change:");
        String before = withoutPadAndHistory(middle());
        int[] answers = {1, 4, 0, 520, 8, 0, 2, 1, 2, 0, 4, 4};
        for (int i = 0; i < CHANGES.length; i++) {
            SkewEdges x = middle();
            due.is("the change " + i, CHANGES[i].on(x), answers[i]);
            due.is("undo() of the change " + i, x.undo(), 5);
            due.same("all behind undo() of the change " + i, withoutPadAndHistory(x), before);
        }
    }

    private static String withoutPadAndHistory(SkewEdges x) {
        return Answers.of(x).replaceAll("(count10|count11|fault0)=\\S+", "");
    }

    private void undoesMoments() {
        due.holds("Promise 22", "is as it was before it.");
        SkewEdges x = new SkewEdges();
        x.begin();
        x.begin();
        x.save(0);
        x.undo();
        x.commit(0);
        x.begin();
        due.is("of(1, 1), begun behind the commit", x.of(1, 1), 3);
        due.is("of(0, 2)", x.of(0, 2), 2);
        x.restore(0);
        due.is("of(1, 1), restored", x.of(1, 1), 2);
        due.is("of(0, 2), restored", x.of(0, 2), -6);
        due.is("count(4), restored", x.count(4), 2);
        due.is("undo()", x.undo(), 3);
        due.is("of(1, 1), undone", x.of(1, 1), 3);
        due.is("of(0, 2), undone", x.of(0, 2), 2);
        due.is("count(4), undone", x.count(4), 3);
    }

    private void undoesAllOfTheLastTransaction() {
        due.holds("Promise 22", "everything except the pad, the slots and the history is as it was before it.");
        SkewEdges x = new SkewEdges();
        for (int number = 0; number < 12; number++) {
            x.begin();
        }
        x.write(11, 15, 1);
        x.save(1);
        x.write(11, 15, 2);
        x.undo();
        due.is("read(11, 15), undone", x.read(11, 15), 1);
        x.undo();
        due.is("of(11, 3)", x.of(11, 3), 0);
        x.read(11, 14);
        x.undo();
        due.is("of(11, 3), undone", x.of(11, 3), 0);
        x.write(11, 15, 3);
        x.commit(11);
        due.is("value(15)", x.value(15), 3);
        x.restore(1);
        due.is("read(11, 15), restored", x.read(11, 15), 1);
        x.abort(11);
        x.undo();
        due.is("of(11, 0), undone", x.of(11, 0), 0);
        due.is("of(11, 7), undone", x.of(11, 7), -6);
    }

    private void undoLeavesThePad() {
        due.holds("Promise 22", "everything except the pad, the slots and the history is as it was before it.");
        SkewEdges x = new SkewEdges();
        x.put('b');
        x.begin();
        x.put(';');
        x.put('b');
        x.undo();
        due.is("count(10)", x.count(10), 3);
        due.is("fault()", x.fault(), -6);
        x.begin();
        x.wipe();
        x.undo();
        due.is("count(10), wiped", x.count(10), 0);
        x.put('b');
        x.carryOut();
        x.undo();
        due.is("count(10), carried out", x.count(10), 0);
        due.is("count(0)", x.count(0), 0);
    }

    private void undoLeavesTheSlots() {
        due.holds("Promise 22", "except the pad, the slots and the history");
        SkewEdges x = new SkewEdges();
        x.begin();
        x.begin();
        x.save(1);
        x.undo();
        x.undo();
        due.is("restore(0), nothing was saved", x.restore(0), -5);
        due.is("restore(1)", x.restore(1), 2);
        x.write(0, 0, 5);
        x.save(0);
        x.undo();
        due.is("restore(0)", x.restore(0), 2);
        due.is("read(0, 0)", x.read(0, 0), 5);
        x.undo();
        x.undo();
        due.is("restore(1), still", x.restore(1), 2);
        due.is("of(0, 4)", x.of(0, 4), 0);
    }

    private void undoLeavesTheHistory() {
        due.holds("Promise 22", "and the history is as it was before it.");
        SkewEdges x = new SkewEdges();
        x.begin();
        x.begin();
        due.is("undo()", x.undo(), 1);
        due.is("count(11)", x.count(11), 1);
        due.is("undo() is not undone", x.undo(), 0);
        due.is("count(0)", x.count(0), 0);
        x.rule(0);
        due.is("undo() of what came behind", x.undo(), 0);
        due.is("count(0)", x.count(0), 0);
        due.is("count(5)", x.count(5), 1);
    }

    private void sixStates() {
        due.holds("Promise 22", "A history of at most 6 states is kept:");
        SkewEdges x = new SkewEdges();
        for (int i = 0; i < 5; i++) {
            x.begin();
        }
        due.is("count(11) of five", x.count(11), 5);
        x.begin();
        due.is("count(11) of six", x.count(11), 6);
        x.begin();
        due.is("count(11) of seven", x.count(11), 6);
        for (int left = 5; left >= 0; left--) {
            due.is("undo()", x.undo(), left);
            due.is("count(0)", x.count(0), 1 + left);
        }
        due.is("undo() of the seventh", x.undo(), -5);
        due.is("count(0)", x.count(0), 1);
    }

    private void eachChangeRecords() {
        due.holds("Promise 22", "each method that is a change, and returns no error, records the state before it");
        for (int i = 0; i < CHANGES.length; i++) {
            SkewEdges x = middle();
            x.undo();
            x.undo();
            x.restore(1);
            int kept = x.count(11);
            int answer = CHANGES[i].on(x);
            due.is("count(11) behind the change " + i, x.count(11), answer < 0 ? kept : kept + 1);
            due.is("the change " + i + " is no error", answer < 0 ? 1 : 0, 0);
        }
    }

    private void noOtherCallRecords() {
        due.holds("Promise 22", "each method that is a change,");
        SkewEdges x = middle();
        x.undo();
        int kept = x.count(11);
        Answers.of(x);
        x.wipe();
        x.put('b');
        x.fault();
        x.save(0);
        x.save(1);
        due.is("count(11) behind looks, texts and save", x.count(11), kept);
    }

    private void errorsRecordNothing() {
        due.holds("Promise 22", "and returns no error,");
        SkewEdges x = new SkewEdges();
        x.begin();
        x.begin();
        x.abort(0);
        x.rule(4);
        x.read(0, 0);
        x.read(1, 16);
        x.write(0, 0, 0);
        x.write(1, 0, 1000);
        x.commit(0);
        x.commit(2);
        x.abort(0);
        x.abort(-1);
        x.restore(0);
        x.restore(2);
        x.carryOut();
        due.is("count(11)", x.count(11), 3);
        due.is("undo()", x.undo(), 2);
        due.is("of(0, 0)", x.of(0, 0), 0);
        SkewEdges y = new SkewEdges();
        for (int number = 0; number < 12; number++) {
            y.begin();
        }
        for (int i = 0; i < 7; i++) {
            y.begin();
        }
        due.is("undo() behind seven that were too many", y.undo(), 5);
        due.is("count(0)", y.count(0), 11);
    }

    private void recordsAlsoIfNothingIsDifferent() {
        due.holds("Promise 22", "(also if nothing is different then);");
        SkewEdges x = new SkewEdges();
        x.begin();
        x.write(0, 0, 1);
        x.save(0);
        x.rule(1);
        x.read(0, 0);
        x.write(0, 0, 1);
        x.restore(0);
        due.is("count(11)", x.count(11), 6);
        Due.put(x, "c9");
        x.carryOut();
        due.is("count(11)", x.count(11), 6);
        for (int left = 5; left >= 1; left--) {
            due.is("undo()", x.undo(), left);
            due.is("of(0, 4)", x.of(0, 4), 1);
        }
        due.is("undo() of the write", x.undo(), 0);
        due.is("of(0, 4)", x.of(0, 4), 0);
        due.is("count(0), the begin was dropped", x.count(0), 1);
        due.is("undo()", x.undo(), -5);
    }

    private void theOldestOneIsDropped() {
        due.holds("Promise 22", "when one more is recorded, the oldest one is dropped.");
        SkewEdges x = new SkewEdges();
        x.begin();
        for (int value = 1; value <= 7; value++) {
            x.write(0, 0, value);
        }
        for (int left = 5; left >= 0; left--) {
            due.is("undo()", x.undo(), left);
        }
        due.is("undo()", x.undo(), -5);
        due.is("read(0, 0), the first write and the begin are not undone", x.read(0, 0), 1);
    }

    private void theHistoryTurnsOften() {
        due.holds("Promise 22", "A history of at most 6 states is kept:");
        SkewEdges x = new SkewEdges();
        x.begin();
        int value = 0;
        for (int turn = 1; turn <= 30; turn++) {
            int changes = turn % 9;
            for (int i = 0; i < changes; i++) {
                value++;
                x.write(0, 0, value);
            }
            int undone = Math.min(turn % 4, Math.min(6, changes));
            for (int i = 0; i < undone; i++) {
                x.undo();
                value--;
            }
            if (changes > undone) {
                due.is("of(0, 4) in the turn " + turn, x.of(0, 4), 1);
                due.is("read(0, 0) in the turn " + turn, x.read(0, 0), value);
                x.undo();
            }
        }
    }

    private void anOrderRecordsNothing() {
        due.holds("Promise 22", "An order of a text records nothing by itself.");
        SkewEdges x = new SkewEdges();
        x.rule(2);
        Due.put(x, "b;b;b;w0.0=1;r1.0;c0;x2;b;b;b");
        due.is("carryOut()", x.carryOut(), 10);
        due.is("count(11)", x.count(11), 2);
        due.is("undo()", x.undo(), 1);
        due.is("count(0)", x.count(0), 0);
        due.is("undo()", x.undo(), 0);
        due.is("count(5)", x.count(5), 1);
    }

    private void undoReturnsHowMany() {
        due.holds("Promise 22", "Returns how many changes can be undone then;");
        SkewEdges x = new SkewEdges();
        for (int i = 0; i < 8; i++) {
            x.rule(i % 4);
        }
        for (int left = 5; left >= 0; left--) {
            due.is("undo()", x.undo(), left);
            due.is("count(11)", x.count(11), left);
        }
    }

    private void undoOfNone() {
        due.holds("Promise 22", "NOT_POSSIBLE if there is none.");
        SkewEdges x = new SkewEdges();
        due.is("undo() of a new object", x.undo(), -5);
        x.save(0);
        x.put('b');
        due.is("undo() behind what is no change", x.undo(), -5);
        x.begin();
        due.is("undo()", x.undo(), 0);
        due.is("undo() again", x.undo(), -5);
        due.is("undo() again", x.undo(), -5);
        x.begin();
        due.is("undo()", x.undo(), 0);
    }

    private void save() {
        due.holds("Promise 23",
            "`int save(int slot)`: Saves everything except the pad, the history and the slots in a slot,");
        SkewEdges x = middle();
        x.rule(2);
        x.save(0);
        String before = Answers.of(x);
        x.begin();
        x.commit(0);
        x.commit(1);
        x.rule(3);
        x.write(2, 2, 2);
        x.abort(2);
        due.is("restore(0)", x.restore(0), 4);
        due.same("all", Answers.of(x), before);
    }

    private void saveLeavesPadAndHistory() {
        due.holds("Promise 23", "everything except the pad, the history and the slots");
        SkewEdges x = new SkewEdges();
        x.begin();
        x.begin();
        x.put('b');
        x.save(0);
        due.is("count(10), the pad stays", x.count(10), 1);
        due.is("count(11), no change", x.count(11), 2);
        x.wipe();
        x.put('c');
        x.save(1);
        x.restore(0);
        due.is("count(10), not saved", x.count(10), 1);
        due.is("fault(), not saved", x.fault(), 1);
        due.is("count(11), not saved", x.count(11), 3);
        due.is("restore(1), the other slot is not saved", x.restore(1), 2);
    }

    private void saveOverwrites() {
        due.holds("Promise 23", "and overwrites what was saved there.");
        SkewEdges x = new SkewEdges();
        x.begin();
        x.write(0, 0, 1);
        x.save(0);
        x.save(1);
        x.write(0, 0, 2);
        x.begin();
        x.save(0);
        x.begin();
        due.is("restore(0)", x.restore(0), 2);
        due.is("read(0, 0)", x.read(0, 0), 2);
        due.is("restore(1), the other slot", x.restore(1), 1);
        due.is("read(0, 0)", x.read(0, 0), 1);
        x.undo();
        x.undo();
        x.undo();
        x.undo();
        x.undo();
        due.is("restore(0), undo does not bring it back", x.restore(0), 2);
    }

    private void saveSlots() {
        due.holds("Promise 23", "- `slot`: 0 or 1");
        SkewEdges x = new SkewEdges();
        due.is("save(0), the smallest", x.save(0), 0);
        x.begin();
        due.is("save(1), the largest", x.save(1), 1);
        due.is("restore(0)", x.restore(0), 0);
        due.is("restore(1)", x.restore(1), 1);
    }

    private void saveReturnsHowMany() {
        due.holds("Promise 23", "Returns how many transactions there are;");
        SkewEdges x = new SkewEdges();
        for (int number = 0; number < 12; number++) {
            due.is("save(0)", x.save(0), number);
            x.begin();
            if (number % 2 == 0) {
                x.abort(number);
            }
        }
        due.is("save(0), also those that have ended", x.save(0), 12);
    }

    private void saveOfNoSlot() {
        due.holds("Promise 23", "BAD_VALUE if there is no such slot.");
        SkewEdges x = new SkewEdges();
        for (int slot : new int[] {-1, 2, 3, 32, MAX, MIN}) {
            due.is("save(" + slot + ")", x.save(slot), -2);
        }
        due.is("restore(0), nothing was saved", x.restore(0), -5);
        due.is("restore(1), nothing was saved", x.restore(1), -5);
    }

    private void restore() {
        due.holds("Promise 24", "`int restore(int slot)`: Restores what was saved last in a slot,");
        SkewEdges x = middle();
        x.commit(0);
        String before = Answers.of(x);
        x.save(1);
        x.rule(0);
        x.commit(1);
        x.begin();
        x.write(4, 3, 7);
        x.commit(4);
        due.is("restore(1)", x.restore(1), 4);
        due.same("all", Answers.of(x), before);
        due.is("restore(0), a state without transactions", x.restore(0), 0);
        due.is("count(4)", x.count(4), 0);
        due.is("value(3)", x.value(3), 0);
        due.is("begin()", x.begin(), 0);
        due.is("of(0, 4)", x.of(0, 4), 0);
        due.is("read(0, 3)", x.read(0, 3), 0);
    }

    private void restoreKeepsTheSlot() {
        due.holds("Promise 24", "which keeps it.");
        SkewEdges x = new SkewEdges();
        x.begin();
        x.write(0, 0, 4);
        x.save(0);
        for (int i = 0; i < 3; i++) {
            due.is("restore(0)", x.restore(0), 1);
            due.is("read(0, 0)", x.read(0, 0), 4);
            x.write(0, 0, 5);
            x.write(0, 1, 5);
            x.commit(0);
            x.begin();
        }
        due.is("restore(0)", x.restore(0), 1);
        due.is("of(0, 4)", x.of(0, 4), 1);
    }

    private void restoreLeavesPadAndHistory() {
        due.holds("Promise 24", "Restores what was saved last");
        SkewEdges x = new SkewEdges();
        x.save(0);
        x.begin();
        x.begin();
        Due.put(x, "b;b");
        x.restore(0);
        due.is("count(10), the pad stays", x.count(10), 3);
        due.is("fault()", x.fault(), -6);
        due.is("count(11), the history stays", x.count(11), 3);
        x.undo();
        x.undo();
        due.is("count(0), what was ahead of it can be undone", x.count(0), 1);
    }

    private void restoreIsAChange() {
        due.holds("Promise 24", "This is a change.");
        SkewEdges x = new SkewEdges();
        x.begin();
        x.write(0, 0, 1);
        x.save(0);
        x.write(0, 0, 2);
        x.restore(0);
        x.restore(0);
        due.is("count(11), also if nothing is different", x.count(11), 5);
        due.is("undo()", x.undo(), 4);
        due.is("undo()", x.undo(), 3);
        due.is("read(0, 0)", x.read(0, 0), 2);
    }

    private void restoreSlots() {
        due.holds("Promise 24", "- `slot`: 0 or 1");
        SkewEdges x = new SkewEdges();
        x.begin();
        x.save(1);
        x.begin();
        x.save(0);
        due.is("restore(1), the largest", x.restore(1), 1);
        due.is("restore(0), the smallest", x.restore(0), 2);
    }

    private void restoreReturnsHowMany() {
        due.holds("Promise 24", "Returns how many transactions there are then;");
        SkewEdges x = new SkewEdges();
        x.save(0);
        for (int number = 0; number < 12; number++) {
            x.begin();
        }
        x.abort(0);
        x.save(1);
        due.is("restore(0)", x.restore(0), 0);
        due.is("restore(1)", x.restore(1), 12);
        due.is("begin()", x.begin(), -4);
    }

    private void restoreOfNoSlot() {
        due.holds("Promise 24", "BAD_VALUE if there is no such slot;");
        SkewEdges x = new SkewEdges();
        for (int slot : new int[] {-1, 2, 3, 32, MAX, MIN}) {
            due.is("restore(" + slot + ")", x.restore(slot), -2);
        }
        x.save(0);
        x.save(1);
        due.is("restore(2)", x.restore(2), -2);
        due.is("restore(-1)", x.restore(-1), -2);
        due.is("count(11)", x.count(11), 0);
    }

    private void restoreOfNothing() {
        due.holds("Promise 24", "NOT_POSSIBLE if nothing was saved in it.");
        SkewEdges x = new SkewEdges();
        due.is("restore(0)", x.restore(0), -5);
        x.begin();
        x.save(1);
        due.is("restore(0), another slot", x.restore(0), -5);
        due.is("count(11)", x.count(11), 1);
        due.is("restore(1)", x.restore(1), 1);
        SkewEdges y = new SkewEdges();
        y.save(0);
        due.is("restore(1), another slot", y.restore(1), -5);
        due.is("restore(0), an empty state was saved", y.restore(0), 0);
    }
}
