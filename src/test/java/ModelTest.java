import java.util.Random;

/** All promises: long runs of calls, the same ones each time, on the class and on the plain model of the document. */
public final class ModelTest {
    private static final int RUNS = 4000, CALLS = 512, MOST_CALLS_OF_A_CHANGE = 40, LOOKS = 4;
    private static final String SIGNS = "bbrrwwcx0123456789.=;;";

    private final Due due = new Due();
    private final Random random = new Random(20261119);
    private SkewEdges object;
    private int calls;
    private PlainModel model;
    private int keys;
    private int refusedFor1;
    private int refusedFor2;
    private int notSerial;
    private int unsafe;

    public static void main(String[] args) {
        ModelTest test = new ModelTest();
        for (int run = 0; run < RUNS; run++) {
            test.oneRun(run);
        }
        test.sawMuch();
        test.due.end();
    }

    /** What an object answers behind its 512th call is free, so all calls of a run are counted. */
    private SkewEdges real() {
        calls++;
        return object;
    }

    private void oneRun(int run) {
        object = new SkewEdges();
        model = new PlainModel();
        calls = 0;
        keys = 2 + run % 15;
        for (int i = 0; i < run % 7; i++) {
            due.is(3, "begin()", real().begin(), model.begin());
        }
        while (calls < CALLS) {
            if (calls + MOST_CALLS_OF_A_CHANGE <= CALLS) {
                change();
            }
            for (int i = 0; i < LOOKS && calls < CALLS; i++) {
                look();
            }
        }
    }

    private void change() {
        int kind = random.nextInt(100);
        int t = transaction();
        int k = key();
        int v = random.nextInt(40) == 0 ? odd(1000) : random.nextInt(1000);
        if (kind < 12) {
            due.is(3, "begin()", real().begin(), model.begin());
        } else if (kind < 46) {
            due.is(4, "read(" + t + ", " + k + ")", real().read(t, k), model.read(t, k));
        } else if (kind < 62) {
            due.is(5, "write(" + t + ", " + k + ", " + v + ")", real().write(t, k, v), model.write(t, k, v));
        } else if (kind < 73) {
            commit(t);
        } else if (kind < 75) {
            due.is(7, "abort(" + t + ")", real().abort(t), model.abort(t));
        } else if (kind < 80) {
            int rule = random.nextInt(10) == 0 ? odd(4) : random.nextInt(4);
            due.is(2, "rule(" + rule + ")", real().rule(rule), model.rule(rule));
        } else if (kind < 91) {
            text();
        } else {
            past(kind);
        }
    }

    private void commit(int t) {
        int answer = real().commit(t);
        due.is(6, "commit(" + t + ")", answer, model.commit(t));
        refusedFor1 += answer == 1 ? 1 : 0;
        refusedFor2 += answer == 2 ? 1 : 0;
    }

    private void past(int kind) {
        int slot = random.nextInt(12) == 0 ? odd(2) : random.nextInt(2);
        if (kind < 95) {
            due.is(22, "undo()", real().undo(), model.undo());
        } else if (kind < 98) {
            due.is(23, "save(" + slot + ")", real().save(slot), model.save(slot));
        } else {
            due.is(24, "restore(" + slot + ")", real().restore(slot), model.restore(slot));
        }
    }

    private void text() {
        StringBuilder text = new StringBuilder();
        int orders = 1 + random.nextInt(8);
        for (int i = 0; i < orders; i++) {
            text.append(i == 0 ? "" : ";").append(order());
        }
        if (random.nextInt(3) == 0) {
            text.setCharAt(random.nextInt(text.length()), SIGNS.charAt(random.nextInt(SIGNS.length())));
        }
        for (int i = 0; i < text.length(); i += 8) {
            long word = Due.word(text.substring(i, Math.min(text.length(), i + 8)));
            due.is(18, "put(" + word + ")", real().put(word), model.put(word));
            due.is(20, "fault()", real().fault(), model.fault());
        }
        long word = random.nextLong() >>> 8 * random.nextInt(8);
        due.is(18, "put(" + word + ")", real().put(word), model.put(word));
        if (random.nextInt(3) != 0) {
            due.is(21, "carryOut() of " + text, real().carryOut(), model.carryOut());
        }
        if (random.nextInt(2) == 0) {
            due.is(19, "wipe()", real().wipe(), model.wipe());
        }
    }

    private String order() {
        int t = Math.abs(transaction()) % 1200;
        int k = Math.abs(key()) % 1200;
        switch (random.nextInt(9)) {
            case 0: return "b";
            case 1:
            case 2:
            case 3: return "r" + t + "." + k;
            case 4:
            case 5:
            case 6: return "w" + t + "." + k + "=" + random.nextInt(1000);
            case 7: return "c" + t;
            default: return "x" + t;
        }
    }

    private int transaction() {
        int total = model.count(0);
        int active = model.count(1);
        if (random.nextInt(30) == 0 || total == 0) {
            return odd(total);
        }
        int first = random.nextInt(total);
        for (int i = 0; i < total; i++) {
            int transaction = (first + i) % total;
            if ((active >> transaction & 1) == 1 && random.nextInt(12) != 0) {
                return transaction;
            }
        }
        return first;
    }

    private int key() {
        return random.nextInt(50) == 0 ? odd(16) : random.nextInt(keys) * (random.nextInt(9) == 0 ? 1 : 15) % 16;
    }

    /** A number at the edges of 0 to limit - 1, or far off. */
    private int odd(int limit) {
        int[] odd = {-1, limit, limit - 1, limit + 1, Integer.MAX_VALUE, Integer.MIN_VALUE, 0, 12, 16, 1000, -6};
        return odd[random.nextInt(odd.length)];
    }

    private void look() {
        int total = model.count(0);
        int t = random.nextInt(20) == 0 ? odd(total) : random.nextInt(total + 1);
        int kind = random.nextInt(20);
        if (kind < 4) {
            int what = random.nextInt(20) == 0 ? odd(12) : random.nextInt(3) == 0 ? 9 : random.nextInt(12);
            int answer = real().count(what);
            due.is(12, "count(" + what + ")", answer, model.count(what));
            notSerial += what == 9 && answer == 0 ? 1 : 0;
        } else if (kind < 6) {
            int place = random.nextInt(total + 2) - 1;
            due.is(13, "order(" + place + ")", real().order(place), model.order(place));
        } else if (kind < 7) {
            int key = key();
            due.is(8, "value(" + key + ")", real().value(key), model.value(key));
        } else if (kind < 9) {
            int rule = random.nextInt(20) == 0 ? odd(4) : random.nextInt(4);
            due.is(17, "doomed(" + rule + ")", real().doomed(rule), model.doomed(rule));
        } else if (kind < 10) {
            due.is(20, "fault()", real().fault(), model.fault());
        } else {
            lookAtOne(t, kind);
        }
    }

    private void lookAtOne(int t, int kind) {
        int to = random.nextInt(20) == 0 ? odd(12) : random.nextInt(model.count(0) + 1);
        int key = key();
        if (kind < 13) {
            int what = random.nextInt(20) == 0 ? odd(9) : random.nextInt(3) == 0 ? 8 : random.nextInt(9);
            int answer = real().of(t, what);
            due.is(9, "of(" + t + ", " + what + ")", answer, model.of(t, what));
            unsafe += what == 8 && answer == 0 ? 1 : 0;
        } else if (kind < 14) {
            due.is(10, "edge(" + t + ", " + to + ")", real().edge(t, to), model.edge(t, to));
        } else if (kind < 15) {
            due.is(11, "over(" + t + ", " + to + ")", real().over(t, to), model.over(t, to));
        } else if (kind < 17) {
            due.is(14, "sees(" + t + ", " + key + ")", real().sees(t, key), model.sees(t, key));
        } else if (kind < 18) {
            due.is(15, "would(" + t + ")", real().would(t), model.would(t));
        } else {
            int what = random.nextInt(20) == 0 ? odd(3) : random.nextInt(3);
            due.is(16, "triple(" + t + ", " + what + ")", real().triple(t, what), model.triple(t, what));
        }
    }

    /** Runs in which the rare things don't happen would compare nothing. */
    private void sawMuch() {
        System.out.println("refused for 1: " + refusedFor1 + ", for 2: " + refusedFor2 + ", not serial: " + notSerial
            + ", unsafe snapshots: " + unsafe);
        due.is(6, "many refused for 1", refusedFor1 > 150 ? 1 : 0, 1);
        due.is(6, "many refused for 2", refusedFor2 > 150 ? 1 : 0, 1);
        due.is(12, "many that are not serial", notSerial > 150 ? 1 : 0, 1);
        due.is(9, "many unsafe snapshots", unsafe > 150 ? 1 : 0, 1);
    }
}
