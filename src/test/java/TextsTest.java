/** Promises 18 to 21: put, wipe, fault, carryOut. */
public final class TextsTest {
    private static final Due DUE = new Due();

    public static void main(String[] args) {
        put();
        putBeyondThePad();
        wipe();
        faults();
        noFaults();
        carryOut();
        carryOutUpToAnError();
        carryOutWithAFault();
        carryOutIsOneChange();
        DUE.end();
    }

    private static void put() {
        SkewEdges x = new SkewEdges();
        DUE.is(18, "put(0)", x.put(0), SkewEdges.BAD_VALUE);
        DUE.is(18, "put of a space", x.put(32), SkewEdges.BAD_VALUE);
        DUE.is(18, "put of 127", x.put(127), SkewEdges.BAD_VALUE);
        DUE.is(18, "put of 255", x.put(255), SkewEdges.BAD_VALUE);
        DUE.is(18, "put of a bad one ahead", x.put(Due.word(" b")), SkewEdges.BAD_VALUE);
        DUE.is(18, "put with bits above zeros", x.put(1L << 63 | 'b'), SkewEdges.BAD_VALUE);
        DUE.is(18, "put with a character above zeros", x.put((long) 'b' << 16 | 'b'), SkewEdges.BAD_VALUE);
        DUE.is(18, "put with lowest bits 0", x.put((long) 'b' << 8), SkewEdges.BAD_VALUE);
        DUE.is(18, "put(-1)", x.put(-1), SkewEdges.BAD_VALUE);
        DUE.is(18, "put(MIN)", x.put(Long.MIN_VALUE), SkewEdges.BAD_VALUE);
        DUE.is(18, "count(10)", x.count(10), 0);
        DUE.is(18, "put of 33", x.put(33), 1);
        DUE.is(18, "put of 126", x.put(126), 2);
        DUE.is(18, "put of 8", x.put(Due.word("r0.15;b;")), 10);
        DUE.is(18, "count(11), put is no change", x.count(11), 0);
        x.wipe();
        x.put(Due.word("b;"));
        x.put(Due.word("w0.1=23"));
        DUE.is(18, "carryOut() of the characters in their order", x.carryOut(), 2);
        DUE.is(18, "read(0, 1)", x.read(0, 1), 23);
    }

    private static void putBeyondThePad() {
        SkewEdges x = new SkewEdges();
        for (int i = 1; i <= 9; i++) {
            DUE.is(18, "put of 8", x.put(Due.word("b;b;b;b;")), 8 * i);
        }
        DUE.is(18, "put of 1", x.put('b'), 73);
        DUE.is(18, "put of 8 beyond 80", x.put(Due.word(";b;b;b;b")), SkewEdges.TOO_MANY);
        DUE.is(18, "put of a bad one beyond 80", x.put(Due.word(" b;b;b;b")), SkewEdges.BAD_VALUE);
        DUE.is(18, "put of 7", x.put(Due.word(";b;b;b;")), 80);
        DUE.is(18, "put of 1 beyond 80", x.put('b'), SkewEdges.TOO_MANY);
        DUE.is(18, "count(10)", x.count(10), 80);
        DUE.is(18, "fault() of a full pad", x.fault(), 80);
    }

    private static void wipe() {
        SkewEdges x = new SkewEdges();
        DUE.is(19, "wipe() of nothing", x.wipe(), 0);
        x.put(Due.word("b;b"));
        DUE.is(19, "wipe()", x.wipe(), 3);
        DUE.is(19, "count(10)", x.count(10), 0);
        DUE.is(19, "wipe() again", x.wipe(), 0);
        DUE.is(19, "count(11), wipe is no change", x.count(11), 0);
    }

    private static int faultOf(String text) {
        SkewEdges x = new SkewEdges();
        Due.put(x, text);
        return x.fault();
    }

    private static void faults() {
        String[] texts = {"", "b;", "bb", "b1", "b;;b", ";b", "a", "B", "r", "r0", "r0.", "r.0", "rr", "r0;b", "r00.1",
            "r01.1", "r0.01", "r1000.1", "r0.1000", "r0.1=2", "r0.0.0", "w", "w0", "w0.1", "w0.1=", "w0.1=1000",
            "w0.1=01", "w0.1;b", "w0=1", "w0.1=x", "c", "c;", "c00", "c1000", "c-1", "x", "x1.1", "xb", "c1;r1;b"};
        int[] due = {0, 2, 1, 1, 2, 0, 0, 0, 1, 2, 3, 1, 1, 2, 2,
            2, 4, 4, 6, 4, 4, 1, 2, 4, 5, 8,
            6, 4, 2, 5, 1, 1, 2, 4, 1, 1, 2, 1, 5};
        for (int i = 0; i < texts.length; i++) {
            DUE.is(20, "fault() of " + texts[i], faultOf(texts[i]), due[i]);
        }
    }

    private static void noFaults() {
        String[] texts = {"b", "b;b", "r0.0", "r999.999", "w10.20=0", "w999.999=999", "c0", "c999", "x0", "x100",
            "b;r0.1;w0.2=3;c0;x1"};
        for (String text : texts) {
            DUE.is(20, "fault() of " + text, faultOf(text), SkewEdges.NONE);
        }
    }

    private static void carryOut() {
        SkewEdges x = new SkewEdges();
        Due.put(x, "b;b;r0.3;w1.3=250;r1.3;c1;w0.3=9;c0;b;x2");
        DUE.is(21, "carryOut()", x.carryOut(), 10);
        DUE.is(21, "count(10)", x.count(10), 0);
        DUE.is(21, "value(3)", x.value(3), 250);
        DUE.is(21, "of(0, 7), a refused commit is no error", x.of(0, 7), 1);
        DUE.is(21, "of(2, 7)", x.of(2, 7), 0);
        DUE.is(21, "of(0, 3)", x.of(0, 3), 8);
        DUE.is(21, "of(1, 3)", x.of(1, 3), 0);
    }

    private static void carryOutUpToAnError() {
        String[] texts = {"c0;b", "b;r0.16;b", "b;r1.0;b", "b;w0.16=1", "b;x0;c0;b", "b;c0;x0", "b;b;c2", "r999.999"};
        int[] due = {0, 1, 1, 1, 2, 2, 2, 0};
        for (int i = 0; i < texts.length; i++) {
            SkewEdges x = new SkewEdges();
            Due.put(x, texts[i]);
            DUE.is(21, "carryOut() of " + texts[i], x.carryOut(), due[i]);
            DUE.is(21, "count(10) behind " + texts[i], x.count(10), 0);
            DUE.is(21, "count(11) behind " + texts[i], x.count(11), 1);
        }
        SkewEdges x = new SkewEdges();
        Due.put(x, "b;b;b;b;b;b;b;b;b;b;b;b;b;b");
        DUE.is(21, "carryOut() of 14 begins", x.carryOut(), 12);
        DUE.is(21, "count(0)", x.count(0), 12);
    }

    private static void carryOutWithAFault() {
        SkewEdges x = new SkewEdges();
        DUE.is(21, "carryOut() of nothing", x.carryOut(), SkewEdges.BAD_TEXT);
        Due.put(x, "b;b;");
        DUE.is(21, "carryOut() of a fault", x.carryOut(), SkewEdges.BAD_TEXT);
        DUE.is(21, "count(10), the pad stays", x.count(10), 4);
        DUE.is(21, "count(0)", x.count(0), 0);
        DUE.is(21, "count(11)", x.count(11), 0);
        Due.put(x, "b");
        DUE.is(21, "carryOut()", x.carryOut(), 3);
    }

    private static void carryOutIsOneChange() {
        SkewEdges x = new SkewEdges();
        x.begin();
        Due.put(x, "b;b;w1.0=4;c1");
        x.carryOut();
        DUE.is(21, "count(11)", x.count(11), 2);
        DUE.is(21, "undo()", x.undo(), 1);
        DUE.is(21, "count(0)", x.count(0), 1);
        DUE.is(21, "value(0)", x.value(0), 0);
        DUE.is(21, "count(10), the pad is not undone", x.count(10), 0);
    }
}
