/** Promises 22 to 24: undo, save, restore. */
public final class UndoTest {
    private static final Due DUE = new Due();

    public static void main(String[] args) {
        undoOfEachChange();
        undoKeepsSix();
        errorsDropNothing();
        undoLeavesPadAndSlots();
        undoForgetsWhatWasWritten();
        errorsRecordNothing();
        save();
        restore();
        restoreIsAChange();
        DUE.end();
    }

    private static void undoOfEachChange() {
        SkewEdges x = new SkewEdges();
        DUE.is(22, "undo() of none", x.undo(), SkewEdges.NOT_POSSIBLE);
        x.rule(2);
        DUE.is(22, "undo() of rule", x.undo(), 0);
        DUE.is(22, "count(5)", x.count(5), 1);
        x.begin();
        x.begin();
        DUE.is(22, "undo() of begin", x.undo(), 1);
        DUE.is(22, "count(0)", x.count(0), 1);
        DUE.is(22, "count(4)", x.count(4), 1);
        x.read(0, 1);
        DUE.is(22, "undo() of read", x.undo(), 1);
        DUE.is(22, "of(0, 3)", x.of(0, 3), 0);
        x.write(0, 1, 5);
        x.write(0, 1, 6);
        DUE.is(22, "undo() of write", x.undo(), 2);
        DUE.is(22, "read(0, 1)", x.read(0, 1), 5);
        x.commit(0);
        DUE.is(22, "undo() of commit", x.undo(), 3);
        DUE.is(22, "of(0, 0)", x.of(0, 0), 0);
        DUE.is(22, "of(0, 2)", x.of(0, 2), SkewEdges.NONE);
        DUE.is(22, "value(1)", x.value(1), 0);
        x.abort(0);
        DUE.is(22, "undo() of abort", x.undo(), 3);
        DUE.is(22, "of(0, 7)", x.of(0, 7), SkewEdges.NONE);
        DUE.is(22, "undo()", x.undo(), 2);
        DUE.is(22, "undo()", x.undo(), 1);
        DUE.is(22, "undo()", x.undo(), 0);
        DUE.is(22, "undo() of none", x.undo(), SkewEdges.NOT_POSSIBLE);
        DUE.is(22, "count(0)", x.count(0), 0);
    }

    private static void undoKeepsSix() {
        SkewEdges x = new SkewEdges();
        for (int i = 0; i < 10; i++) {
            x.begin();
            DUE.is(22, "count(11)", x.count(11), Math.min(6, i + 1));
        }
        for (int left = 5; left >= 0; left--) {
            DUE.is(22, "undo()", x.undo(), left);
            DUE.is(22, "count(0)", x.count(0), 4 + left);
        }
        DUE.is(22, "undo() of the seventh", x.undo(), SkewEdges.NOT_POSSIBLE);
        x.rule(0);
        DUE.is(22, "undo()", x.undo(), 0);
        DUE.is(22, "count(0)", x.count(0), 4);
    }

    private static void errorsDropNothing() {
        SkewEdges x = new SkewEdges();
        for (int i = 0; i < 6; i++) {
            x.begin();
        }
        x.rule(4);
        x.abort(6);
        for (int left = 5; left >= 0; left--) {
            DUE.is(22, "undo() behind errors", x.undo(), left);
            DUE.is(22, "count(0)", x.count(0), left);
        }
    }

    private static void undoLeavesPadAndSlots() {
        SkewEdges x = new SkewEdges();
        x.begin();
        x.begin();
        x.save(0);
        Due.put(x, "b;b");
        x.undo();
        DUE.is(22, "count(10)", x.count(10), 3);
        DUE.is(22, "restore(0)", x.restore(0), 2);
    }

    private static void undoForgetsWhatWasWritten() {
        SkewEdges x = new SkewEdges();
        x.begin();
        x.begin();
        x.read(1, 2);
        x.write(1, 3, 4);
        x.abort(1);
        for (int i = 0; i < 4; i++) {
            x.undo();
        }
        DUE.is(22, "begin() again", x.begin(), 1);
        int[] due = {0, 2, SkewEdges.NONE, 0, 0, 0, 0, SkewEdges.NONE, 2};
        for (int what = 0; what < 9; what++) {
            DUE.is(22, "of(1, " + what + ")", x.of(1, what), due[what]);
        }
        DUE.is(22, "read(1, 3)", x.read(1, 3), 0);
    }

    private static void errorsRecordNothing() {
        SkewEdges x = new SkewEdges();
        x.begin();
        x.rule(9);
        x.read(0, 16);
        x.write(0, 0, 1000);
        x.commit(1);
        x.abort(1);
        x.restore(0);
        x.restore(2);
        x.carryOut();
        x.undo();
        DUE.is(22, "undo() behind errors", x.undo(), SkewEdges.NOT_POSSIBLE);
        DUE.is(22, "count(0)", x.count(0), 0);
    }

    private static void save() {
        SkewEdges x = new SkewEdges();
        DUE.is(23, "save(0) of nothing", x.save(0), 0);
        x.begin();
        DUE.is(23, "save(1)", x.save(1), 1);
        DUE.is(23, "count(11), save is no change", x.count(11), 1);
        DUE.is(23, "save(2)", x.save(2), SkewEdges.BAD_VALUE);
        DUE.is(23, "save(-1)", x.save(-1), SkewEdges.BAD_VALUE);
        x.begin();
        DUE.is(23, "restore(0)", x.restore(0), 0);
        DUE.is(23, "restore(1)", x.restore(1), 1);
        x.write(0, 0, 8);
        DUE.is(23, "save(0) over what was there", x.save(0), 1);
        x.write(0, 0, 9);
        DUE.is(23, "restore(0)", x.restore(0), 1);
        DUE.is(23, "read(0, 0)", x.read(0, 0), 8);
        DUE.is(23, "restore(1)", x.restore(1), 1);
        DUE.is(23, "read(0, 0)", x.read(0, 0), 0);
    }

    private static void restore() {
        SkewEdges x = new SkewEdges();
        DUE.is(24, "restore(0)", x.restore(0), SkewEdges.NOT_POSSIBLE);
        DUE.is(24, "restore(1)", x.restore(1), SkewEdges.NOT_POSSIBLE);
        DUE.is(24, "restore(2)", x.restore(2), SkewEdges.BAD_VALUE);
        DUE.is(24, "restore(-1)", x.restore(-1), SkewEdges.BAD_VALUE);
        x.rule(0);
        x.begin();
        x.read(0, 4);
        x.write(0, 5, 6);
        x.save(1);
        DUE.is(24, "restore(0), another slot", x.restore(0), SkewEdges.NOT_POSSIBLE);
        x.rule(3);
        x.commit(0);
        x.begin();
        Due.put(x, "b");
        DUE.is(24, "restore(1)", x.restore(1), 1);
        int[] due = {0, 1, SkewEdges.NONE, 16, 32, 0, 0, SkewEdges.NONE, SkewEdges.NONE};
        for (int what = 0; what < 9; what++) {
            DUE.is(24, "of(0, " + what + ")", x.of(0, what), due[what]);
        }
        DUE.is(24, "count(5)", x.count(5), 0);
        DUE.is(24, "count(4)", x.count(4), 1);
        DUE.is(24, "count(10), the pad stays", x.count(10), 1);
        x.write(0, 5, 7);
        DUE.is(24, "restore(1), the slot keeps it", x.restore(1), 1);
        DUE.is(24, "read(0, 5)", x.read(0, 5), 6);
    }

    private static void restoreIsAChange() {
        SkewEdges x = new SkewEdges();
        x.save(0);
        x.begin();
        x.begin();
        x.restore(0);
        DUE.is(24, "count(11), the history stays", x.count(11), 3);
        DUE.is(24, "undo()", x.undo(), 2);
        DUE.is(24, "count(0)", x.count(0), 2);
    }
}
