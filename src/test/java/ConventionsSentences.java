import java.util.ArrayList;
import java.util.List;

/** The sentences of "Conventions": errors, NONE, numbers from 0, sets. */
final class ConventionsSentences {
    private static final int MAX = Integer.MAX_VALUE, MIN = Integer.MIN_VALUE;

    private final Due due;

    ConventionsSentences(Due due) {
        this.due = due;
    }

    void run() {
        errorCodes();
        theConstants();
        firstErrorThatApplies();
        errorsChangeNothing();
        errorsChangeNothingWithTwelve();
        errorsChangeNothingInANewObject();
        errorsChangeNothingOnAFullPad();
        noneIsNoError();
        noneOnlyIfNoErrorApplies();
        numberedFromNought();
        setsAreBitMasks();
        fiveHundredAndTwelveCalls();
    }

    private interface Call {
        int on(SkewEdges x);
    }

    private record Refused(String name, int error, Call call) {
    }

    private void errorCodes() {
        due.holds("Conventions", "A method that fails returns one of the error codes NO_SUCH (-1), BAD_VALUE (-2), "
            + "BAD_TEXT (-3), TOO_MANY (-4) and NOT_POSSIBLE (-5);");
        SkewEdges x = new SkewEdges();
        due.is("value(16)", x.value(16), -1);
        due.is("rule(4)", x.rule(4), -2);
        due.is("carryOut() of an empty pad", x.carryOut(), -3);
        due.is("undo() of nothing", x.undo(), -5);
        for (int i = 0; i < 12; i++) {
            x.begin();
        }
        due.is("begin() of the 13th", x.begin(), -4);
    }

    private void theConstants() {
        due.holds("Texts", "The constants: `NO_SUCH = -1, BAD_VALUE = -2, BAD_TEXT = -3, TOO_MANY = -4, "
            + "NOT_POSSIBLE = -5, NONE = -6`: Error codes, and NONE: there is none.");
        due.is("NO_SUCH", SkewEdges.NO_SUCH, -1);
        due.is("BAD_VALUE", SkewEdges.BAD_VALUE, -2);
        due.is("BAD_TEXT", SkewEdges.BAD_TEXT, -3);
        due.is("TOO_MANY", SkewEdges.TOO_MANY, -4);
        due.is("NOT_POSSIBLE", SkewEdges.NOT_POSSIBLE, -5);
        due.is("NONE", SkewEdges.NONE, -6);
    }

    /** 0 and 1 are active, 2 is committed, 3 is aborted; there is a version, an edge, a saved slot, a full history. */
    private static SkewEdges busy() {
        SkewEdges x = new SkewEdges();
        x.begin();
        x.begin();
        x.begin();
        x.begin();
        x.read(0, 0);
        x.write(1, 0, 5);
        x.read(1, 1);
        x.write(2, 1, 6);
        x.save(0);
        x.commit(2);
        x.abort(3);
        x.write(0, 2, 7);
        Due.put(x, "b;");
        return x;
    }

    private void firstErrorThatApplies() {
        due.holds("Conventions", "it names its errors in the order in which they are checked, and the first one that "
            + "applies is returned.");
        SkewEdges x = busy();
        due.is("read(4, 16), neither", x.read(4, 16), -1);
        due.is("read(2, 16), no key and not active", x.read(2, 16), -1);
        due.is("write(4, 0, 1000), no transaction and no value", x.write(4, 0, 1000), -1);
        due.is("write(2, 16, 1000), no key, no value, not active", x.write(2, 16, 1000), -1);
        due.is("write(2, 0, 1000), no value and not active", x.write(2, 0, 1000), -2);
        due.is("write(3, 0, -1), no value and not active", x.write(3, 0, -1), -2);
        due.is("of(4, 9), neither", x.of(4, 9), -1);
        due.is("triple(4, 3), neither", x.triple(4, 3), -1);
        due.is("triple(2, 3), no part and not active", x.triple(2, 3), -2);
        due.is("restore(2), no slot and not saved", x.restore(2), -2);
        due.is("restore(-1), no slot and not saved", x.restore(-1), -2);
        for (int i = 0; i < 9; i++) {
            x.put(Due.word("b;b;b;b;"));
        }
        due.is("count(10)", x.count(10), 74);
        due.is("put of a bad character that would be too long", x.put(Due.word("b;b b;b;")), -2);
        due.is("put of a bad code that would be too long", x.put(-1), -2);
        due.is("put of bits above zeros that would be too long", x.put(1L << 63 | Due.word("b;b;b;")), -2);
        due.is("put that would be too long", x.put(Due.word("b;b;b;b")), -4);
        notSerialAndNotSoMany();
    }

    private void notSerialAndNotSoMany() {
        SkewEdges x = notSerial();
        due.is("order(2), not so many and not serial", x.order(2), -1);
        due.is("order(-1), below 0 and not serial", x.order(-1), -1);
        due.is("order(1), not serial", x.order(1), -5);
    }

    /** Each of the two has read what the other one has written, and both are committed. */
    private static SkewEdges notSerial() {
        SkewEdges x = new SkewEdges();
        x.rule(3);
        x.begin();
        x.begin();
        x.read(0, 0);
        x.read(1, 1);
        x.write(0, 1, 1);
        x.write(1, 0, 1);
        x.commit(0);
        x.commit(1);
        return x;
    }

    private static List<Refused> refusedChanges() {
        List<Refused> all = new ArrayList<>();
        for (int rule : new int[] {-1, 4, MAX, MIN}) {
            all.add(new Refused("rule(" + rule + ")", -2, x -> x.rule(rule)));
        }
        for (int none : new int[] {-1, 4, 12, 32, MAX, MIN}) {
            all.add(new Refused("read(" + none + ", 0)", -1, x -> x.read(none, 0)));
            all.add(new Refused("write(" + none + ", 0, 1)", -1, x -> x.write(none, 0, 1)));
            all.add(new Refused("commit(" + none + ")", -1, x -> x.commit(none)));
            all.add(new Refused("abort(" + none + ")", -1, x -> x.abort(none)));
        }
        for (int key : new int[] {-1, 16, 32, MAX, MIN}) {
            all.add(new Refused("read(0, " + key + ")", -1, x -> x.read(0, key)));
            all.add(new Refused("write(0, " + key + ", 1)", -1, x -> x.write(0, key, 1)));
        }
        for (int value : new int[] {-1, 1000, MAX, MIN}) {
            all.add(new Refused("write(0, 0, " + value + ")", -2, x -> x.write(0, 0, value)));
        }
        for (int ended : new int[] {2, 3}) {
            all.add(new Refused("read(" + ended + ", 0)", -5, x -> x.read(ended, 0)));
            all.add(new Refused("write(" + ended + ", 0, 1)", -5, x -> x.write(ended, 0, 1)));
            all.add(new Refused("commit(" + ended + ")", -5, x -> x.commit(ended)));
            all.add(new Refused("abort(" + ended + ")", -5, x -> x.abort(ended)));
        }
        for (int slot : new int[] {-1, 2, MAX, MIN}) {
            all.add(new Refused("save(" + slot + ")", -2, x -> x.save(slot)));
            all.add(new Refused("restore(" + slot + ")", -2, x -> x.restore(slot)));
        }
        all.add(new Refused("restore(1)", -5, x -> x.restore(1)));
        all.add(new Refused("carryOut()", -3, SkewEdges::carryOut));
        for (long word : new long[] {0, 32, 127, -1, 'b' << 8, 1L << 63 | 'b', Due.word("b b")}) {
            all.add(new Refused("put(" + word + ")", -2, x -> x.put(word)));
        }
        return all;
    }

    private static List<Refused> refusedLooks() {
        List<Refused> all = new ArrayList<>();
        for (int none : new int[] {-1, 4}) {
            all.add(new Refused("of(" + none + ", 0)", -1, x -> x.of(none, 0)));
            all.add(new Refused("edge(0, " + none + ")", -1, x -> x.edge(0, none)));
            all.add(new Refused("over(" + none + ", 0)", -1, x -> x.over(none, 0)));
            all.add(new Refused("sees(" + none + ", 0)", -1, x -> x.sees(none, 0)));
            all.add(new Refused("would(" + none + ")", -1, x -> x.would(none)));
            all.add(new Refused("triple(" + none + ", 0)", -1, x -> x.triple(none, 0)));
            all.add(new Refused("order(" + none + ")", -1, x -> x.order(none)));
        }
        all.add(new Refused("value(16)", -1, x -> x.value(16)));
        all.add(new Refused("of(0, 9)", -2, x -> x.of(0, 9)));
        all.add(new Refused("count(12)", -2, x -> x.count(12)));
        all.add(new Refused("doomed(4)", -2, x -> x.doomed(4)));
        all.add(new Refused("triple(0, 3)", -2, x -> x.triple(0, 3)));
        all.add(new Refused("triple(2, 0)", -5, x -> x.triple(2, 0)));
        all.add(new Refused("would(3)", -5, x -> x.would(3)));
        return all;
    }

    private void errorsChangeNothing() {
        due.holds("Conventions", "A call that returns an error changes nothing.");
        List<Refused> all = refusedChanges();
        all.addAll(refusedLooks());
        for (Refused refused : all) {
            for (int undone = 0; undone <= 7; undone++) {
                SkewEdges x = busy();
                SkewEdges like = busy();
                due.is(refused.name, refused.call.on(x), refused.error);
                for (int i = 0; i < undone; i++) {
                    due.is("undo() behind " + refused.name, x.undo(), like.undo());
                }
                due.same("all behind " + refused.name, Answers.of(x), Answers.of(like));
                due.is("restore(1) behind " + refused.name, x.restore(1), -5);
                due.is("restore(0) behind " + refused.name, x.restore(0), 4);
                like.restore(0);
                due.is("put(b) behind " + refused.name, x.put('b'), 3);
                like.put('b');
                due.is("carryOut() behind " + refused.name, x.carryOut(), 2);
                like.carryOut();
                due.same("all at last behind " + refused.name, Answers.of(x), Answers.of(like));
            }
        }
    }

    private void errorsChangeNothingWithTwelve() {
        due.holds("Conventions", "A call that returns an error changes nothing.");
        SkewEdges x = new SkewEdges();
        SkewEdges like = new SkewEdges();
        for (int i = 0; i < 12; i++) {
            x.begin();
            like.begin();
        }
        due.is("begin() of the 13th", x.begin(), -4);
        due.same("all behind begin()", Answers.of(x), Answers.of(like));
        due.is("count(0)", x.count(0), 12);
        due.is("count(4)", x.count(4), 12);
        for (int left = 5; left >= 0; left--) {
            due.is("undo()", x.undo(), left);
            due.is("count(0)", x.count(0), 6 + left);
        }
        SkewEdges y = notSerial();
        due.is("order(0)", y.order(0), -5);
        due.same("all behind order()", Answers.of(y), Answers.of(notSerial()));
    }

    private void errorsChangeNothingInANewObject() {
        due.holds("Conventions", "A call that returns an error changes nothing.");
        SkewEdges x = new SkewEdges();
        String before = Answers.of(new SkewEdges());
        due.is("undo()", x.undo(), -5);
        due.is("carryOut()", x.carryOut(), -3);
        due.is("restore(0)", x.restore(0), -5);
        due.is("read(0, 0)", x.read(0, 0), -1);
        due.is("write(0, 0, 0)", x.write(0, 0, 0), -1);
        due.is("commit(0)", x.commit(0), -1);
        due.is("abort(0)", x.abort(0), -1);
        due.same("all behind them", Answers.of(x), before);
        due.is("begin()", x.begin(), 0);
        due.is("undo()", x.undo(), 0);
        due.same("all behind undo()", Answers.of(x), before);
    }

    private void errorsChangeNothingOnAFullPad() {
        due.holds("Conventions", "A call that returns an error changes nothing.");
        SkewEdges x = new SkewEdges();
        for (int i = 0; i < 9; i++) {
            x.put(Due.word("b;x999;;"));
        }
        x.put(Due.word("bbbbbb"));
        due.is("put of 3 on a pad of 78", x.put(Due.word("bbb")), -4);
        due.is("count(10)", x.count(10), 78);
        due.is("put of 2", x.put(Due.word("bb")), 80);
        due.is("put of 1 on a full pad", x.put('b'), -4);
        due.is("count(10)", x.count(10), 80);
        due.is("fault()", x.fault(), 7);
    }

    private void noneIsNoError() {
        due.holds("Conventions", "NONE (-6) is not an error;");
        SkewEdges x = busy();
        due.is("of(0, 2)", x.of(0, 2), -6);
        due.is("of(0, 7)", x.of(0, 7), -6);
        due.is("of(0, 8)", x.of(0, 8), -6);
        due.is("over(1, 0)", x.over(1, 0), -6);
        due.is("sees(0, 1)", x.sees(0, 1), -6);
        due.is("triple(0, 0)", x.triple(0, 0), -6);
        x.put('b');
        due.is("fault()", x.fault(), -6);
    }

    private void noneOnlyIfNoErrorApplies() {
        due.holds("Conventions", "it is returned only if no error applies.");
        SkewEdges x = busy();
        due.is("of(4, 2)", x.of(4, 2), -1);
        due.is("of(4, 7)", x.of(4, 7), -1);
        due.is("of(4, 8)", x.of(4, 8), -1);
        due.is("over(0, 4)", x.over(0, 4), -1);
        due.is("over(4, 0)", x.over(4, 0), -1);
        due.is("sees(0, 16)", x.sees(0, 16), -1);
        due.is("sees(4, 1)", x.sees(4, 1), -1);
        due.is("triple(2, 0), committed", x.triple(2, 0), -5);
        due.is("triple(3, 2), aborted", x.triple(3, 2), -5);
        due.is("triple(0, 3)", x.triple(0, 3), -2);
    }

    private void numberedFromNought() {
        due.holds("Conventions", "Everything is numbered from 0.");
        SkewEdges x = new SkewEdges();
        due.is("begin()", x.begin(), 0);
        due.is("write(0, 0, 3)", x.write(0, 0, 3), 1);
        due.is("count(1)", x.count(1), 1);
        due.is("commit(0)", x.commit(0), 0);
        due.is("order(0)", x.order(0), 0);
        due.is("value(0)", x.value(0), 3);
        due.is("save(0)", x.save(0), 1);
        due.is("fault()", x.fault(), 0);
    }

    private void setsAreBitMasks() {
        due.holds("Conventions", "Sets of transactions and of keys are bit masks.");
        SkewEdges x = new SkewEdges();
        int keys = 0;
        int transactions = 0;
        for (int i = 0; i < 12; i++) {
            x.begin();
            transactions |= 1 << i;
            due.is("count(1) with " + i + " the last", x.count(1), transactions);
        }
        for (int key = 0; key < 16; key++) {
            keys |= 1 << key;
            x.read(0, key);
            due.is("of(0, 3) with the key " + key, x.of(0, 3), keys);
            due.is("write(11, " + key + ", 0)", x.write(11, key, 0), keys);
        }
        due.is("of(0, 5)", x.of(0, 5), 1 << 11);
        due.is("of(11, 6)", x.of(11, 6), 1);
        x.abort(5);
        due.is("count(3)", x.count(3), 1 << 5);
        x.commit(11);
        due.is("count(2)", x.count(2), 1 << 11);
    }

    private void fiveHundredAndTwelveCalls() {
        due.holds("What it is", "An object is used for at most 512 calls after it has been made;");
        SkewEdges x = new SkewEdges();
        x.begin();
        int keys = 0;
        for (int call = 2; call <= 510; call++) {
            keys |= 1 << call % 16;
            due.is("write() as the call " + call, x.write(0, call % 16, call), keys);
        }
        due.is("undo() as the 511th call", x.undo(), 5);
        due.is("read(0, 13) as the 512th call", x.read(0, 13), 509);
    }
}
