/** The sentences of "Texts", and of the promises 18 to 21: put, wipe, fault, carryOut. */
final class TextsSentences {
    private final Due due;

    TextsSentences(Due due) {
        this.due = due;
    }

    void run() {
        eightyCharacters();
        aTextIsARowOfOrders();
        anOrder();
        whatTheOrdersDo();
        aNumber();
        firstCharacterThatCannotStand();
        aDigitAbove999();
        aTextThatEndsTooEarly();
        put();
        putTakesTheLowestBitsLast();
        putOfOneToEight();
        putOfNoCharacter();
        putOfABadCode();
        putOfBitsAboveNought();
        putOfTooMany();
        wipe();
        fault();
        carryOutUpToAnError();
        carryOutOfEachError();
        carryOutEmptiesThePad();
        carryOutIsOneChange();
        carryOutOfNoneIsAChange();
        carryOutHowMany();
        carryOutOfAFault();
    }

    private static SkewEdges pad(String text) {
        SkewEdges x = new SkewEdges();
        Due.put(x, text);
        return x;
    }

    private void faultIs(String text, int fault) {
        due.is("fault() of '" + text + "'", pad(text).fault(), fault);
    }

    private void eightyCharacters() {
        due.holds("Texts", "The pad is a text of at most 80 characters, a row of orders:");
        SkewEdges x = new SkewEdges();
        x.begin();
        String text = "w0.10=10;".repeat(8) + "w0.10=11";
        due.is("put() of a text of 80", Due.put(x, text), 80);
        due.is("count(10)", x.count(10), 80);
        due.is("fault()", x.fault(), -6);
        due.is("put() of one more", x.put(';'), -4);
        due.is("carryOut()", x.carryOut(), 9);
        due.is("read(0, 10), the last order", x.read(0, 10), 11);
        SkewEdges y = pad("x0;".repeat(26) + "b");
        due.is("count(10), one below", y.count(10), 79);
        due.is("fault(), one below", y.fault(), -6);
        due.is("put() of the last one", y.put(';'), 80);
        due.is("fault(), full and too early at its end", y.fault(), 80);
        SkewEdges z = pad("b;".repeat(39) + "bb");
        due.is("fault() at the last character", z.fault(), 79);
    }

    private void aTextIsARowOfOrders() {
        due.holds("Texts", "text = order { \";\" order }");
        faultIs("b", -6);
        faultIs("b;b", -6);
        faultIs("b;r0.1;w2.3=4;c5;x6;b", -6);
        faultIs(";", 0);
        faultIs("b;", 2);
        faultIs("b;;b", 2);
        faultIs("b,b", 1);
        faultIs("bb", 1);
        faultIs("c1b", 2);
        faultIs("c1;;", 3);
        faultIs("r1.1r", 4);
        faultIs("w1.1=1w", 6);
    }

    private void anOrder() {
        due.holds("Texts", "order = \"b\" | \"r\" number \".\" number | \"w\" number \".\" number \"=\" number | \"c\" number | "
            + "\"x\" number");
        String[] orders = {"b", "r1.2", "w1.2=3", "c1", "x1"};
        for (String order : orders) {
            faultIs(order, -6);
            faultIs("b;" + order, -6);
            for (int end = 1; end < order.length(); end++) {
                faultIs(order.substring(0, end), end);
                faultIs(order.substring(0, end) + ";", end);
                faultIs(order.substring(0, end) + "b", end);
            }
            for (char sign = 33; sign < 127; sign++) {
                boolean digit = sign >= '0' && sign <= '9';
                if (sign != ';' && (!digit || order.equals("b"))) {
                    faultIs(order + sign, order.length());
                }
                if ("brwcx".indexOf(sign) < 0) {
                    faultIs(sign + order, 0);
                }
            }
        }
        faultIs("b1", 1);
        faultIs("r1", 2);
        faultIs("r1=2", 2);
        faultIs("w1.2.3", 4);
        faultIs("w1=2", 2);
        faultIs("r1.2=3", 4);
        faultIs("c1.2", 2);
        faultIs("x.1", 1);
    }

    private void whatTheOrdersDo() {
        due.holds("Texts", "\"b\": begin();");
        SkewEdges x = pad("b;b;b;b");
        due.is("carryOut()", x.carryOut(), 4);
        due.is("count(1)", x.count(1), 15);
        due.holds("Texts", "\"r\": read() by a transaction of a key;");
        Due.put(x, "r2.15;r1.0");
        due.is("carryOut()", x.carryOut(), 2);
        due.is("of(2, 3)", x.of(2, 3), 0x8000);
        due.is("of(1, 3)", x.of(1, 3), 1);
        due.holds("Texts", "\"w\": write() by a transaction to a key of a value;");
        Due.put(x, "w2.3=999;w2.4=0;w1.12=10");
        due.is("carryOut()", x.carryOut(), 3);
        due.is("read(2, 3)", x.read(2, 3), 999);
        due.is("of(2, 4)", x.of(2, 4), 24);
        due.is("of(1, 4)", x.of(1, 4), 4096);
        due.is("read(1, 12)", x.read(1, 12), 10);
        due.holds("Texts", "\"c\": commit();");
        Due.put(x, "c2");
        due.is("carryOut()", x.carryOut(), 1);
        due.is("count(2)", x.count(2), 4);
        due.is("value(3)", x.value(3), 999);
        due.holds("Texts", "\"x\": abort().");
        Due.put(x, "x1");
        due.is("carryOut()", x.carryOut(), 1);
        due.is("count(3)", x.count(3), 2);
        due.is("of(1, 7)", x.of(1, 7), 0);
    }

    private void aNumber() {
        due.holds("Texts", "A number is 0 to 999, without leading zeros.");
        for (String number : new String[] {"0", "1", "9", "10", "99", "100", "101", "900", "999"}) {
            faultIs("c" + number, -6);
            faultIs("r" + number + "." + number, -6);
            faultIs("w" + number + "." + number + "=" + number, -6);
        }
        for (String number : new String[] {"00", "01", "09", "000", "010"}) {
            faultIs("x" + number, 2);
            faultIs("r" + number + ".1", 2);
            faultIs("r1." + number, 4);
            faultIs("w1.2=" + number, 6);
        }
        faultIs("c-1", 1);
        faultIs("c+1", 1);
        faultIs("c/", 1);
        faultIs("c:", 1);
        faultIs("c1/", 2);
        faultIs("c1:", 2);
    }

    private void firstCharacterThatCannotStand() {
        due.holds("Texts", "The fault is the index of the first character that cannot stand at its place when the text is "
            + "read from left to right");
        faultIs("a", 0);
        faultIs("B", 0);
        faultIs("0", 0);
        faultIs("!b", 0);
        faultIs("b;~", 2);
        faultIs("b;q;q;q", 2);
        faultIs("rr0.0", 1);
        faultIs("r0..0", 3);
        faultIs("r0.0;c", 6);
        faultIs("r0.0;cc;;", 6);
        faultIs("w0.0==1", 5);
        faultIs("w0.0=1=", 6);
        faultIs("w0.0;=1", 4);
        faultIs("b;c0;x00;r", 7);
    }

    private void aDigitAbove999() {
        due.holds("Texts", "(also of a digit by which a number would be above 999);");
        faultIs("c1000", 4);
        faultIs("c9999", 4);
        faultIs("c10000000000", 4);
        faultIs("c4294967296", 4);
        faultIs("r1000.1", 4);
        faultIs("r1.1000", 6);
        faultIs("r999.9990", 8);
        faultIs("w1.1=1000", 8);
        faultIs("w999.999=9999", 12);
        faultIs("c999", -6);
    }

    private void aTextThatEndsTooEarly() {
        due.holds("Texts", "if there is none and the text ends too early (also if it is empty), it is the length of the text.");
        due.is("fault() of an empty pad", new SkewEdges().fault(), 0);
        String[] texts = {"r", "r1", "r10", "r10.", "w", "w1", "w1.", "w1.2", "w1.2=", "c", "x", "b;", "b;b;", "x999;"};
        for (String text : texts) {
            faultIs(text, text.length());
        }
        SkewEdges x = pad("b");
        x.wipe();
        due.is("fault() of a pad that was emptied", x.fault(), 0);
    }

    private void put() {
        due.holds("Promise 18", "`int put(long characters)`: Appends characters to the pad.");
        SkewEdges x = new SkewEdges();
        x.put(Due.word("b;w0"));
        x.put(Due.word(".1"));
        x.put('=');
        x.put(Due.word("23;c0;b"));
        due.holds("Promise 18", "Returns the length of the pad then;");
        due.is("put()", x.put(Due.word(";x1")), 17);
        due.is("put()", x.put(Due.word(";r1.0;b")), 24);
        due.is("carryOut()", x.carryOut(), 5);
        due.is("value(1)", x.value(1), 23);
        due.is("put() behind carryOut()", x.put('b'), 1);
    }

    private void putTakesTheLowestBitsLast() {
        due.holds("Promise 18", "They are given as a number: its lowest 8 bits are the last character, the next 8 bits the "
            + "one before, and so on;");
        SkewEdges x = new SkewEdges();
        x.put('b' << 16 | ';' << 8 | 'c');
        due.is("fault() of 'b;c'", x.fault(), 3);
        x.put('0');
        due.is("fault() of 'b;c0'", x.fault(), -6);
        x.wipe();
        x.begin();
        x.put(0x77302e313d323334L);
        due.is("carryOut() of eight characters", x.carryOut(), 1);
        due.is("read(0, 1)", x.read(0, 1), 234);
    }

    private void putOfOneToEight() {
        due.holds("Promise 18", "- `characters`: 1 to 8 characters");
        for (int many = 1; many <= 8; many++) {
            SkewEdges x = new SkewEdges();
            due.is("put() of " + many, x.put(Due.word("b;b;b;b;".substring(0, many))), many);
            due.is("fault() of " + many, x.fault(), many % 2 == 1 ? -6 : many);
        }
    }

    private void putOfNoCharacter() {
        due.holds("Promise 18", "BAD_VALUE if there is no character,");
        SkewEdges x = new SkewEdges();
        due.is("put(0)", x.put(0), -2);
        x.put('b');
        due.is("put(0)", x.put(0), -2);
        due.is("count(10)", x.count(10), 1);
    }

    private void putOfABadCode() {
        due.holds("Promise 18", "a code is not 33 to 126,");
        for (int code = 1; code < 256; code++) {
            boolean good = code >= 33 && code <= 126;
            for (int place = 0; place < 8; place++) {
                long word = Due.word("bbbbbbbb") & ~(255L << 8 * place) | (long) code << 8 * place;
                SkewEdges x = new SkewEdges();
                due.is("put() with the code " + code + " at " + place, x.put(word), good ? 8 : -2);
                due.is("count(10)", x.count(10), good ? 8 : 0);
            }
            due.is("put(" + code + ")", new SkewEdges().put(code), good ? 1 : -2);
        }
        due.is("put(-1)", new SkewEdges().put(-1), -2);
        due.is("put(MAX)", new SkewEdges().put(Long.MAX_VALUE), -2);
        due.is("put(MIN)", new SkewEdges().put(Long.MIN_VALUE), -2);
    }

    private void putOfBitsAboveNought() {
        due.holds("Promise 18", "8 bits that are 0 mean that there are no more characters, and everything above them has to "
            + "be 0, too.");
        SkewEdges x = new SkewEdges();
        due.is("put('b'), zeros above it", x.put('b'), 1);
        x.wipe();
        due.holds("Promise 18", "or a bit above 8 bits that are 0 is not 0;");
        for (int gap = 0; gap < 7; gap++) {
            long low = Due.word("bbbbbbb".substring(0, gap));
            for (int bit = 8 * gap + 8; bit < 64; bit++) {
                due.is("put() with the bit " + bit + " above a gap at " + gap, x.put(low | 1L << bit), -2);
            }
        }
        due.is("put() of a character above a gap", x.put((long) 'b' << 16 | 'b'), -2);
        due.is("put() of a character above a gap, the eighth", x.put((long) 'b' << 56 | 'b'), -2);
        due.is("put() of a character with a gap below it", x.put('b' << 8), -2);
        due.is("count(10)", x.count(10), 0);
    }

    private void putOfTooMany() {
        due.holds("Promise 18", "TOO_MANY if the pad would be longer than 80.");
        for (int many = 1; many <= 8; many++) {
            SkewEdges x = new SkewEdges();
            for (int i = 0; i < 81 - many; i++) {
                x.put('b');
            }
            long word = Due.word(";b;b;b;b".substring(0, many));
            due.is("put() of " + many + " to 81", x.put(word), -4);
            due.is("count(10)", x.count(10), 81 - many);
            due.is("put() of " + (many - 1) + " to 80", x.put(word >>> 8), many == 1 ? -2 : 80);
            due.is("put() of " + many, x.put(word), -4);
            due.is("put() of a bad code", x.put(word & ~255L | 32), -2);
            due.is("put(0)", x.put(0), -2);
            due.is("put() of a character above a gap", x.put((long) 'b' << 16 | 'b'), -2);
            due.is("put() of a bit above a gap", x.put(1L << 63 | 'b'), -2);
            due.is("count(10)", x.count(10), 80);
        }
    }

    private void wipe() {
        due.holds("Promise 19", "`int wipe()`: Empties the pad, and returns the length that it had.");
        SkewEdges x = new SkewEdges();
        due.is("wipe() of nothing", x.wipe(), 0);
        due.is("put()", x.put(Due.word("x1;x1;x1")), 8);
        due.is("wipe()", x.wipe(), 8);
        due.is("count(10)", x.count(10), 0);
        due.is("wipe() again", x.wipe(), 0);
        for (int i = 0; i < 10; i++) {
            x.put(Due.word("x1;x1;x1"));
        }
        due.is("wipe() of a full pad", x.wipe(), 80);
        due.is("put() on a pad that was full", x.put('b'), 1);
        due.is("fault()", x.fault(), -6);
        due.is("count(11), no change", x.count(11), 0);
        due.is("carryOut()", x.carryOut(), 1);
    }

    private void fault() {
        due.holds("Promise 20", "`int fault()`: Returns the fault of the pad, NONE if there is none.");
        SkewEdges x = new SkewEdges();
        due.is("fault(), empty", x.fault(), 0);
        x.put('b');
        due.is("fault(), none", x.fault(), -6);
        due.is("fault(), none, again", x.fault(), -6);
        x.put(';');
        due.is("fault(), too early", x.fault(), 2);
        x.put(';');
        due.is("fault(), at a character", x.fault(), 2);
        due.is("count(10), nothing has changed", x.count(10), 3);
        due.is("count(11), nothing has changed", x.count(11), 0);
        due.is("fault() of an order that returns an error", pad("c999").fault(), -6);
    }

    private void carryOutUpToAnError() {
        due.holds("Promise 21", "`int carryOut()`: Carries the orders of the pad out, one after the other, up to the first "
            + "one that returns an error,");
        SkewEdges x = pad("b;w0.0=1;w0.16=1;w0.1=1");
        due.is("carryOut(), the third one fails", x.carryOut(), 2);
        due.is("of(0, 4)", x.of(0, 4), 1);
        SkewEdges y = pad("b;b;w0.0=1;w1.0=2;c0;c1;b;r2.0");
        due.is("carryOut(), a commit that is refused is no error", y.carryOut(), 8);
        due.is("of(1, 7)", y.of(1, 7), 1);
        due.is("of(2, 3)", y.of(2, 3), 1);
        SkewEdges z = pad("b" + ";b".repeat(39));
        due.is("carryOut() of 40 begins", z.carryOut(), 12);
        due.is("count(0)", z.count(0), 12);
        due.is("count(4)", z.count(4), 12);
    }

    private void carryOutOfEachError() {
        due.holds("Promise 21", "up to the first one that returns an error,");
        String[] wrong = {"r2.0", "r0.16", "r999.999", "r1.0", "w2.0=0", "w0.16=0", "w1.0=0", "c2", "c1", "c999", "x2", "x1",
            "x999"};
        for (String order : wrong) {
            SkewEdges x = pad("b;b;x1;" + order + ";b");
            due.is("carryOut() with " + order, x.carryOut(), 3);
            due.is("count(0) behind " + order, x.count(0), 2);
            due.is("of(0, 3) behind " + order, x.of(0, 3), 0);
            due.is("of(0, 4) behind " + order, x.of(0, 4), 0);
            due.is("count(10) behind " + order, x.count(10), 0);
            due.is("undo() behind " + order, x.undo(), 0);
            due.is("count(0) behind undo()", x.count(0), 0);
        }
    }

    private void carryOutEmptiesThePad() {
        due.holds("Promise 21", "and empties the pad.");
        SkewEdges x = pad("b;b");
        x.carryOut();
        due.is("count(10)", x.count(10), 0);
        due.is("fault()", x.fault(), 0);
        due.is("carryOut() again", x.carryOut(), -3);
        Due.put(x, "c5;b");
        due.is("carryOut(), the first one fails", x.carryOut(), 0);
        due.is("count(10), also behind an error", x.count(10), 0);
        x.undo();
        due.is("count(10), undo does not bring it back", x.count(10), 0);
    }

    private void carryOutIsOneChange() {
        due.holds("Promise 21", "This is a change (one, with all of them;");
        SkewEdges x = new SkewEdges();
        x.begin();
        Due.put(x, "b;b;w1.0=4;c1;x2");
        due.is("carryOut()", x.carryOut(), 5);
        due.is("count(11)", x.count(11), 2);
        due.is("undo()", x.undo(), 1);
        due.is("count(0)", x.count(0), 1);
        due.is("count(4)", x.count(4), 1);
        due.is("value(0)", x.value(0), 0);
        due.is("undo()", x.undo(), 0);
        due.is("undo()", x.undo(), -5);
    }

    private void carryOutOfNoneIsAChange() {
        due.holds("Promise 21", "also if none is carried out).");
        SkewEdges x = new SkewEdges();
        x.begin();
        Due.put(x, "c1;b");
        due.is("carryOut()", x.carryOut(), 0);
        due.is("count(11)", x.count(11), 2);
        due.is("count(0)", x.count(0), 1);
        due.is("undo()", x.undo(), 1);
        due.is("count(0)", x.count(0), 1);
        due.is("undo()", x.undo(), 0);
        due.is("count(0)", x.count(0), 0);
    }

    private void carryOutHowMany() {
        due.holds("Promise 21", "Returns how many orders were carried out;");
        due.is("carryOut() of none", pad("x0").carryOut(), 0);
        due.is("carryOut() of one", pad("b").carryOut(), 1);
        SkewEdges x = new SkewEdges();
        x.begin();
        Due.put(x, "w0.0=1;".repeat(11) + "x0");
        due.is("carryOut() of twelve", x.carryOut(), 12);
        SkewEdges y = pad("b" + ";b".repeat(11) + ";c0;c1;c2;c3;c4;c5;c6;c7;c8;c9;x9;x10");
        due.is("carryOut() of some and one that fails", y.carryOut(), 22);
        due.is("count(2)", y.count(2), 1023);
        due.is("count(3)", y.count(3), 0);
    }

    private void carryOutOfAFault() {
        due.holds("Promise 21", "BAD_TEXT if the pad has a fault (then it stays).");
        due.is("carryOut() of an empty pad", new SkewEdges().carryOut(), -3);
        for (String text : new String[] {"b;", "b;b;b;q", "q", "b;c", "b;c1000", "b;w0.0=00"}) {
            SkewEdges x = pad(text);
            due.is("carryOut() of " + text, x.carryOut(), -3);
            due.is("count(10) behind " + text, x.count(10), text.length());
            due.is("count(0) behind " + text, x.count(0), 0);
            due.is("count(11) behind " + text, x.count(11), 0);
        }
        SkewEdges y = pad("b;");
        y.carryOut();
        y.put('b');
        due.is("carryOut() of what stayed and one more", y.carryOut(), 2);
    }
}
