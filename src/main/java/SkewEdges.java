/** Transactions over snapshots of keys, and the edges from a reader to the one who writes behind its back. */
public final class SkewEdges {
    public static final int NO_SUCH = -1, BAD_VALUE = -2, BAD_TEXT = -3, TOO_MANY = -4, NOT_POSSIBLE = -5, NONE = -6;

    private static final int KEYS = 16, TRANSACTIONS = 12, RULES = 4, VALUES = 1000, SLOTS = 2;
    private static final int UNDOABLE = 6, PAD_LENGTH = 80, WORD_LENGTH = 8;
    private static final int ACTIVE = 0, COMMITTED = 1, ABORTED = 2;
    private static final int BY_ABORT = 0, LATER_WRITER = 1, CLOSED_TRIPLE = 2;
    private static final int UNSAFE = 0, SAFE = 1, NOT_KNOWN = 2;

    private final Ledger ledger;
    private final History history;
    private final Ledger[] slots;
    private final boolean[] saved;
    private final Pad pad;
    private final Sequence sequence;

    public SkewEdges() {
        ledger = new Ledger();
        history = new History();
        slots = new Ledger[SLOTS];
        for (int slot = 0; slot < SLOTS; slot++) {
            slots[slot] = new Ledger();
        }
        saved = new boolean[SLOTS];
        pad = new Pad();
        sequence = new Sequence();
    }

    // ---- changes

    public int rule(int rule) {
        history.prepare(ledger);
        return history.keepUnlessError(ledger.changeRule(rule));
    }

    public int begin() {
        history.prepare(ledger);
        return history.keepUnlessError(ledger.start());
    }

    public int read(int transaction, int key) {
        history.prepare(ledger);
        return history.keepUnlessError(ledger.look(transaction, key));
    }

    public int write(int transaction, int key, int value) {
        history.prepare(ledger);
        return history.keepUnlessError(ledger.enter(transaction, key, value));
    }

    public int commit(int transaction) {
        history.prepare(ledger);
        return history.keepUnlessError(ledger.finish(transaction));
    }

    public int abort(int transaction) {
        history.prepare(ledger);
        return history.keepUnlessError(ledger.giveUp(transaction));
    }

    // ---- what there is

    public int value(int key) {
        if (!isKey(key)) {
            return NO_SUCH;
        }
        return ledger.valueOfVersion(ledger.writerAhead(key, ledger.moment + 1), key);
    }

    public int of(int transaction, int what) {
        if (!ledger.exists(transaction)) {
            return NO_SUCH;
        }
        switch (what) {
            case 0: return ledger.phase[transaction];
            case 1: return ledger.beganAt[transaction];
            case 2: return ledger.committedAt[transaction];
            case 3: return ledger.readKeys[transaction];
            case 4: return ledger.writtenKeys[transaction];
            case 5: return ledger.edgesFrom(transaction);
            case 6: return ledger.edgesTo(transaction);
            case 7: return ledger.reason[transaction];
            case 8: return ledger.snapshot(transaction);
            default: return BAD_VALUE;
        }
    }

    public int edge(int from, int to) {
        if (!ledger.exists(from) || !ledger.exists(to)) {
            return NO_SUCH;
        }
        return ledger.edgeKeys(from, to) != 0 ? 1 : 0;
    }

    public int over(int from, int to) {
        if (!ledger.exists(from) || !ledger.exists(to)) {
            return NO_SUCH;
        }
        int keys = ledger.edgeKeys(from, to);
        for (int key = 0; key < KEYS; key++) {
            if (contains(keys, key)) {
                return key;
            }
        }
        return NONE;
    }

    public int count(int what) {
        switch (what) {
            case 0: return ledger.total;
            case 1: return ledger.inPhase(ACTIVE);
            case 2: return ledger.inPhase(COMMITTED);
            case 3: return ledger.inPhase(ABORTED);
            case 4: return ledger.moment;
            case 5: return ledger.rule;
            case 6: return ledger.edgeTotal();
            case 7: return ledger.pivots();
            case 8: return ledger.tripleTotal();
            case 9: return sequence.arrange(ledger) ? 1 : 0;
            case 10: return pad.length;
            case 11: return history.kept;
            default: return BAD_VALUE;
        }
    }

    public int order(int place) {
        if (place < 0 || place >= Integer.bitCount(ledger.inPhase(COMMITTED))) {
            return NO_SUCH;
        }
        if (!sequence.arrange(ledger)) {
            return NOT_POSSIBLE;
        }
        return sequence.at(place);
    }

    public int sees(int transaction, int key) {
        if (!ledger.exists(transaction) || !isKey(key)) {
            return NO_SUCH;
        }
        return ledger.seenWriter(transaction, key);
    }

    // ---- what if; nothing changes

    public int would(int transaction) {
        if (!ledger.exists(transaction)) {
            return NO_SUCH;
        }
        if (ledger.phase[transaction] != ACTIVE) {
            return NOT_POSSIBLE;
        }
        return Commits.refusal(ledger, transaction, ledger.rule);
    }

    public int triple(int transaction, int what) {
        if (!ledger.exists(transaction)) {
            return NO_SUCH;
        }
        if (what < 0 || what > 2) {
            return BAD_VALUE;
        }
        if (ledger.phase[transaction] != ACTIVE) {
            return NOT_POSSIBLE;
        }
        if (Commits.refusal(ledger, transaction, ledger.rule) != CLOSED_TRIPLE) {
            return NONE;
        }
        return Commits.partOfTriple(Commits.firstTriple(ledger, transaction, ledger.rule), what);
    }

    public int doomed(int rule) {
        if (!isRule(rule)) {
            return BAD_VALUE;
        }
        int active = ledger.inPhase(ACTIVE);
        int set = 0;
        for (int transaction = 0; transaction < TRANSACTIONS; transaction++) {
            if (contains(active, transaction) && Commits.refusal(ledger, transaction, rule) != 0) {
                set |= 1 << transaction;
            }
        }
        return set;
    }

    // ---- texts

    public int put(long characters) {
        return pad.append(characters);
    }

    public int wipe() {
        return pad.empty();
    }

    public int fault() {
        return pad.firstFault();
    }

    public int carryOut() {
        if (pad.firstFault() != NONE) {
            return BAD_TEXT;
        }
        history.prepare(ledger);
        int carried = 0;
        pad.rewind();
        boolean more = true;
        while (more && carried < PAD_LENGTH && pad.passOrder() && carryOne() >= 0) {
            carried++;
            more = pad.passSign(';');
        }
        pad.empty();
        return history.keepUnlessError(carried);
    }

    /** Carries out the order that the pad has passed last; it answers what the method of this order would. */
    private int carryOne() {
        switch (pad.kind) {
            case 'b': return ledger.start();
            case 'r': return ledger.look(pad.first, pad.second);
            case 'w': return ledger.enter(pad.first, pad.second, pad.third);
            case 'c': return ledger.finish(pad.first);
            case 'x': return ledger.giveUp(pad.first);
            default: return BAD_TEXT;
        }
    }

    // ---- undo, saving

    public int undo() {
        return history.stepBack(ledger);
    }

    public int save(int slot) {
        if (!isSlot(slot)) {
            return BAD_VALUE;
        }
        slots[slot].copyFrom(ledger);
        saved[slot] = true;
        return ledger.total;
    }

    public int restore(int slot) {
        if (!isSlot(slot)) {
            return BAD_VALUE;
        }
        if (!saved[slot]) {
            return NOT_POSSIBLE;
        }
        history.prepare(ledger);
        ledger.copyFrom(slots[slot]);
        return history.keepUnlessError(ledger.total);
    }

    // ---- what a number may be

    private static boolean isKey(int key) {
        return key >= 0 && key < KEYS;
    }

    private static boolean isRule(int rule) {
        return rule >= 0 && rule < RULES;
    }

    private static boolean isSlot(int slot) {
        return slot >= 0 && slot < SLOTS;
    }

    private static boolean contains(int set, int number) {
        return (set >> number & 1) == 1;
    }

    /** All that undo brings back and a slot saves: the transactions with what they read and wrote, the time, RULE. */
    private static final class Ledger {
        int rule;
        int moment;
        int total;
        final int[] phase;
        final int[] beganAt;
        final int[] committedAt;
        final int[] readKeys;
        final int[] writtenKeys;
        final int[] reason;
        final int[] values;

        Ledger() {
            rule = 1;
            moment = 0;
            total = 0;
            phase = new int[TRANSACTIONS];
            beganAt = new int[TRANSACTIONS];
            committedAt = new int[TRANSACTIONS];
            readKeys = new int[TRANSACTIONS];
            writtenKeys = new int[TRANSACTIONS];
            reason = new int[TRANSACTIONS];
            values = new int[TRANSACTIONS * KEYS];
        }

        void copyFrom(Ledger other) {
            rule = other.rule;
            moment = other.moment;
            total = other.total;
            System.arraycopy(other.phase, 0, phase, 0, TRANSACTIONS);
            System.arraycopy(other.beganAt, 0, beganAt, 0, TRANSACTIONS);
            System.arraycopy(other.committedAt, 0, committedAt, 0, TRANSACTIONS);
            System.arraycopy(other.readKeys, 0, readKeys, 0, TRANSACTIONS);
            System.arraycopy(other.writtenKeys, 0, writtenKeys, 0, TRANSACTIONS);
            System.arraycopy(other.reason, 0, reason, 0, TRANSACTIONS);
            System.arraycopy(other.values, 0, values, 0, TRANSACTIONS * KEYS);
        }

        boolean exists(int transaction) {
            return transaction >= 0 && transaction < total;
        }

        int changeRule(int next) {
            if (!isRule(next)) {
                return BAD_VALUE;
            }
            int previous = rule;
            rule = next;
            return previous;
        }

        int start() {
            if (total >= TRANSACTIONS) {
                return TOO_MANY;
            }
            int transaction = total;
            total++;
            moment++;
            phase[transaction] = ACTIVE;
            beganAt[transaction] = moment;
            committedAt[transaction] = NONE;
            readKeys[transaction] = 0;
            writtenKeys[transaction] = 0;
            reason[transaction] = NONE;
            return transaction;
        }

        int look(int transaction, int key) {
            if (!exists(transaction) || !isKey(key)) {
                return NO_SUCH;
            }
            if (phase[transaction] != ACTIVE) {
                return NOT_POSSIBLE;
            }
            // what it wrote itself it doesn't take from its snapshot, so that counts as no read
            if (!contains(writtenKeys[transaction], key)) {
                readKeys[transaction] |= 1 << key;
            }
            return valueOfVersion(seenWriter(transaction, key), key);
        }

        int enter(int transaction, int key, int value) {
            if (!exists(transaction) || !isKey(key)) {
                return NO_SUCH;
            }
            if (value < 0 || value >= VALUES) {
                return BAD_VALUE;
            }
            if (phase[transaction] != ACTIVE) {
                return NOT_POSSIBLE;
            }
            writtenKeys[transaction] |= 1 << key;
            values[transaction * KEYS + key] = value;
            return writtenKeys[transaction];
        }

        int finish(int transaction) {
            if (!exists(transaction)) {
                return NO_SUCH;
            }
            if (phase[transaction] != ACTIVE) {
                return NOT_POSSIBLE;
            }
            int refusal = Commits.refusal(this, transaction, rule);
            if (refusal != 0) {
                phase[transaction] = ABORTED;
                reason[transaction] = refusal;
                return refusal;
            }
            moment++;
            phase[transaction] = COMMITTED;
            committedAt[transaction] = moment;
            return 0;
        }

        int giveUp(int transaction) {
            if (!exists(transaction)) {
                return NO_SUCH;
            }
            if (phase[transaction] != ACTIVE) {
                return NOT_POSSIBLE;
            }
            phase[transaction] = ABORTED;
            reason[transaction] = BY_ABORT;
            return Integer.bitCount(inPhase(ACTIVE));
        }

        int inPhase(int which) {
            int set = 0;
            for (int transaction = 0; transaction < total; transaction++) {
                if (phase[transaction] == which) {
                    set |= 1 << transaction;
                }
            }
            return set;
        }

        /** The one whose version of a key is the latest ahead of a moment, NONE if that is nobody's. */
        int writerAhead(int key, int before) {
            int writer = NONE;
            int latest = 0;
            for (int other = 0; other < total; other++) {
                if (phase[other] == COMMITTED && contains(writtenKeys[other], key)
                        && committedAt[other] < before && committedAt[other] > latest) {
                    writer = other;
                    latest = committedAt[other];
                }
            }
            return writer;
        }

        /** The one whose version of a key is the earliest behind a moment, NONE if there is none. */
        int writerBehind(int key, int after) {
            int writer = NONE;
            int earliest = moment + 1;
            for (int other = 0; other < total; other++) {
                if (phase[other] == COMMITTED && contains(writtenKeys[other], key)
                        && committedAt[other] > after && committedAt[other] < earliest) {
                    writer = other;
                    earliest = committedAt[other];
                }
            }
            return writer;
        }

        int seenWriter(int transaction, int key) {
            if (contains(writtenKeys[transaction], key)) {
                return transaction;
            }
            return writerAhead(key, beganAt[transaction]);
        }

        int valueOfVersion(int writer, int key) {
            return exists(writer) ? values[writer * KEYS + key] : 0;
        }

        /** The keys over which there is an edge, none if the two don't overlap. */
        int edgeKeys(int from, int to) {
            if (from == to || phase[from] == ABORTED || phase[to] == ABORTED) {
                return 0;
            }
            if (phase[from] == COMMITTED && committedAt[from] < beganAt[to]) {
                return 0;
            }
            if (phase[to] == COMMITTED && committedAt[to] < beganAt[from]) {
                return 0;
            }
            return readKeys[from] & writtenKeys[to];
        }

        int edgesFrom(int transaction) {
            int set = 0;
            for (int other = 0; other < total; other++) {
                if (edgeKeys(transaction, other) != 0) {
                    set |= 1 << other;
                }
            }
            return set;
        }

        int edgesTo(int transaction) {
            int set = 0;
            for (int other = 0; other < total; other++) {
                if (edgeKeys(other, transaction) != 0) {
                    set |= 1 << other;
                }
            }
            return set;
        }

        int edgeTotal() {
            int edges = 0;
            for (int from = 0; from < total; from++) {
                edges += Integer.bitCount(edgesFrom(from));
            }
            return edges;
        }

        int pivots() {
            int set = 0;
            for (int pivot = 0; pivot < total; pivot++) {
                if (edgesTo(pivot) != 0 && edgesFrom(pivot) != 0) {
                    set |= 1 << pivot;
                }
            }
            return set;
        }

        int tripleTotal() {
            int triples = 0;
            for (int pivot = 0; pivot < total; pivot++) {
                triples += Integer.bitCount(edgesTo(pivot)) * Integer.bitCount(edgesFrom(pivot));
            }
            return triples;
        }

        int snapshot(int transaction) {
            if (writtenKeys[transaction] != 0 || phase[transaction] == ABORTED) {
                return NONE;
            }
            boolean someActive = false;
            // those with lower numbers began ahead of it, the others behind
            for (int other = 0; other < transaction; other++) {
                if (phase[other] == ACTIVE) {
                    someActive = true;
                } else if (spoils(other, beganAt[transaction])) {
                    return UNSAFE;
                }
            }
            return someActive ? NOT_KNOWN : SAFE;
        }

        /** Whether it was committed behind a moment with an edge to one that was committed ahead of this moment. */
        private boolean spoils(int transaction, int snapshotMoment) {
            if (phase[transaction] != COMMITTED || committedAt[transaction] < snapshotMoment) {
                return false;
            }
            int edges = edgesFrom(transaction);
            for (int other = 0; other < total; other++) {
                if (contains(edges, other) && phase[other] == COMMITTED && committedAt[other] < snapshotMoment) {
                    return true;
                }
            }
            return false;
        }
    }

    /** Whether a commit would be refused; a triple is told as one number, so that telling it makes no object. */
    private static final class Commits {
        private static final int PART_BITS = 4, PART_MASK = 15;

        static int refusal(Ledger ledger, int transaction, int rule) {
            if (isLaterWriter(ledger, transaction)) {
                return LATER_WRITER;
            }
            return firstTriple(ledger, transaction, rule) == NONE ? 0 : CLOSED_TRIPLE;
        }

        private static boolean isLaterWriter(Ledger ledger, int transaction) {
            int written = ledger.writtenKeys[transaction];
            for (int other = 0; other < ledger.total; other++) {
                if (ledger.phase[other] == COMMITTED && ledger.committedAt[other] > ledger.beganAt[transaction]
                        && (ledger.writtenKeys[other] & written) != 0) {
                    return true;
                }
            }
            return false;
        }

        /** The triple that the commit would close, by the lowest P, then A, then C; NONE if it would close none. */
        static int firstTriple(Ledger ledger, int transaction, int rule) {
            int together = ledger.inPhase(COMMITTED) | 1 << transaction;
            for (int pivot = 0; pivot < ledger.total; pivot++) {
                if (contains(together, pivot)) {
                    int sources = ledger.edgesTo(pivot) & together;
                    int targets = ledger.edgesFrom(pivot) & together;
                    int found = firstOverPivot(ledger, transaction, rule, pivot, sources, targets);
                    if (found != NONE) {
                        return found;
                    }
                }
            }
            return NONE;
        }

        private static int firstOverPivot(Ledger ledger, int transaction, int rule, int pivot, int sources, int targets) {
            for (int a = 0; a < ledger.total; a++) {
                for (int c = 0; c < ledger.total; c++) {
                    boolean among = a == transaction || pivot == transaction || c == transaction;
                    if (among && contains(sources, a) && contains(targets, c) && counts(ledger, rule, a, pivot, c)) {
                        return (pivot << PART_BITS | a) << PART_BITS | c;
                    }
                }
            }
            return NONE;
        }

        /** Of the three only the one that is to be committed can be active yet: it will be the last of them. */
        private static boolean counts(Ledger ledger, int rule, int a, int pivot, int c) {
            if (rule == 0 || rule == 3) {
                return rule == 0;
            }
            if (ledger.phase[c] != COMMITTED) {
                return false;
            }
            int endOfC = ledger.committedAt[c];
            if (ledger.phase[pivot] == COMMITTED && ledger.committedAt[pivot] < endOfC) {
                return false;
            }
            if (ledger.phase[a] == COMMITTED && ledger.committedAt[a] < endOfC) {
                return false;
            }
            return rule == 1 || ledger.writtenKeys[a] != 0 || endOfC < ledger.beganAt[a];
        }

        static int partOfTriple(int triple, int what) {
            switch (what) {
                case 0: return triple >> PART_BITS & PART_MASK;
                case 1: return triple >> PART_BITS + PART_BITS & PART_MASK;
                default: return triple & PART_MASK;
            }
        }
    }

    /** The order in which all that was committed could have been done one after the other. */
    private static final class Sequence {
        private final int[] ahead;
        private final int[] places;

        Sequence() {
            ahead = new int[TRANSACTIONS];
            places = new int[TRANSACTIONS];
        }

        int at(int place) {
            return place >= 0 && place < TRANSACTIONS ? places[place] : NONE;
        }

        /** Finds the order, and answers whether there is one. */
        boolean arrange(Ledger ledger) {
            gather(ledger);
            int left = ledger.inPhase(COMMITTED);
            int all = Integer.bitCount(left);
            for (int place = 0; place < all; place++) {
                int next = lowestFree(left);
                if (next == NONE) {
                    return false;
                }
                places[place] = next;
                left &= ~(1 << next);
            }
            return true;
        }

        private int lowestFree(int left) {
            for (int transaction = 0; transaction < TRANSACTIONS; transaction++) {
                if (contains(left, transaction) && (ahead[transaction] & left) == 0) {
                    return transaction;
                }
            }
            return NONE;
        }

        private void gather(Ledger ledger) {
            for (int transaction = 0; transaction < TRANSACTIONS; transaction++) {
                ahead[transaction] = 0;
            }
            for (int transaction = 0; transaction < ledger.total; transaction++) {
                if (ledger.phase[transaction] == COMMITTED) {
                    for (int key = 0; key < KEYS; key++) {
                        gatherOverKey(ledger, transaction, key);
                    }
                }
            }
        }

        private void gatherOverKey(Ledger ledger, int transaction, int key) {
            if (contains(ledger.writtenKeys[transaction], key)) {
                depend(transaction, ledger.writerBehind(key, ledger.committedAt[transaction]));
            }
            if (contains(ledger.readKeys[transaction], key)) {
                depend(ledger.writerAhead(key, ledger.beganAt[transaction]), transaction);
                depend(transaction, ledger.writerBehind(key, ledger.beganAt[transaction]));
            }
        }

        /** Who writes the next version of what it read itself is not put behind itself. */
        private void depend(int from, int to) {
            if (from >= 0 && to >= 0 && to < TRANSACTIONS && from != to) {
                ahead[to] |= 1 << from;
            }
        }
    }

    /** The states before the latest changes, in a ring with one row more than are kept: the row being prepared. */
    private static final class History {
        private static final int ROWS = UNDOABLE + 1;

        int kept;
        private int next;
        private final Ledger[] rows;

        History() {
            kept = 0;
            next = 0;
            rows = new Ledger[ROWS];
            for (int row = 0; row < ROWS; row++) {
                rows[row] = new Ledger();
            }
        }

        void prepare(Ledger ledger) {
            rows[next].copyFrom(ledger);
        }

        /** Hands on what the change answered; what was prepared is forgotten if that is an error. */
        int keepUnlessError(int answer) {
            if (answer >= 0) {
                next = next + 1 < ROWS ? next + 1 : 0;
                kept = Math.min(kept + 1, UNDOABLE);
            }
            return answer;
        }

        int stepBack(Ledger ledger) {
            if (kept == 0) {
                return NOT_POSSIBLE;
            }
            kept--;
            next = next > 0 ? next - 1 : ROWS - 1;
            ledger.copyFrom(rows[next]);
            return kept;
        }
    }

    /** The text, and a reader that passes it from left to right and stops at what cannot stand there. */
    private static final class Pad {
        int length;
        int kind;
        int first;
        int second;
        int third;
        private int at;
        private int number;
        private final char[] signs;

        Pad() {
            signs = new char[PAD_LENGTH];
        }

        int append(long characters) {
            long rest = characters;
            int added = 0;
            while (added < WORD_LENGTH && (rest & 255) != 0) {
                if ((rest & 255) < 33 || (rest & 255) > 126) {
                    return BAD_VALUE;
                }
                rest >>>= 8;
                added++;
            }
            if (added == 0 || rest != 0) {
                return BAD_VALUE;
            }
            if (length + added > PAD_LENGTH) {
                return TOO_MANY;
            }
            for (int left = added - 1; left >= 0; left--) {
                signs[length] = (char) (characters >>> 8 * left & 255);
                length++;
            }
            return length;
        }

        int empty() {
            int before = length;
            length = 0;
            return before;
        }

        void rewind() {
            at = 0;
        }

        /** Where the reader stops is the fault, be it a wrong sign or the end of the text. */
        int firstFault() {
            rewind();
            for (int orders = 0; orders < PAD_LENGTH && passOrder(); orders++) {
                if (at == length) {
                    return NONE;
                }
                if (!passSign(';')) {
                    return at;
                }
            }
            return at;
        }

        boolean passOrder() {
            kind = at < length ? signs[at] : 0;
            switch (kind) {
                case 'b':
                    at++;
                    return true;
                case 'c':
                case 'x':
                    at++;
                    return passFirst();
                case 'r':
                    at++;
                    return passFirst() && passSign('.') && passSecond();
                case 'w':
                    at++;
                    return passFirst() && passSign('.') && passSecond() && passSign('=') && passThird();
                default:
                    return false;
            }
        }

        boolean passSign(char sign) {
            if (at >= length || signs[at] != sign) {
                return false;
            }
            at++;
            return true;
        }

        private boolean passFirst() {
            boolean passed = passNumber();
            first = number;
            return passed;
        }

        private boolean passSecond() {
            boolean passed = passNumber();
            second = number;
            return passed;
        }

        private boolean passThird() {
            boolean passed = passNumber();
            third = number;
            return passed;
        }

        /** A digit too many is left standing: whatever has to follow the number stops at it then. */
        private boolean passNumber() {
            number = 0;
            int digits = 0;
            while (isDigitNext() && digits < 3 && (digits == 0 || number > 0)) {
                number = number * 10 + (signs[at] - '0');
                at++;
                digits++;
            }
            return digits > 0;
        }

        private boolean isDigitNext() {
            return at < length && signs[at] >= '0' && signs[at] <= '9';
        }
    }
}
