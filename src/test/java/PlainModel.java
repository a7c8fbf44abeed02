import java.util.ArrayList;
import java.util.List;
import java.util.regex.Matcher;
import java.util.regex.Pattern;

/** The document once more, told as plainly as the Java library allows: what SkewEdges is compared with. */
final class PlainModel {
    static final int NO_SUCH = -1, BAD_VALUE = -2, BAD_TEXT = -3, TOO_MANY = -4, NOT_POSSIBLE = -5, NONE = -6;

    private static final String NUMBER = "(0|[1-9][0-9]{0,2})";
    private static final String ORDER = "(b|r" + NUMBER + "\\." + NUMBER + "|w" + NUMBER + "\\." + NUMBER + "="
        + NUMBER + "|c" + NUMBER + "|x" + NUMBER + ")";
    private static final Pattern TEXT = Pattern.compile(ORDER + "(;" + ORDER + ")*");

    static final class One {
        int state, begin, commit = NONE, why = NONE;
        boolean[] read = new boolean[16];
        int[] wrote = new int[16];
        List<Integer> activeAtBegin = new ArrayList<>();

        One() {
            java.util.Arrays.fill(wrote, -1);
        }

        One copy() {
            One one = new One();
            one.state = state;
            one.begin = begin;
            one.commit = commit;
            one.why = why;
            one.read = read.clone();
            one.wrote = wrote.clone();
            one.activeAtBegin = new ArrayList<>(activeAtBegin);
            return one;
        }
    }

    static final class World {
        int rule = 1, now = 0;
        List<One> all = new ArrayList<>();

        World copy() {
            World world = new World();
            world.rule = rule;
            world.now = now;
            for (One one : all) {
                world.all.add(one.copy());
            }
            return world;
        }
    }

    private World w = new World();
    private final List<World> past = new ArrayList<>();
    private final World[] slots = new World[2];
    private String pad = "";

    private boolean has(int t) {
        return 0 <= t && t < w.all.size();
    }

    private static boolean key(int k) {
        return 0 <= k && k < 16;
    }

    private One at(int t) {
        return w.all.get(t);
    }

    private int changed(World before, int answer) {
        if (answer >= 0) {
            past.add(before);
            if (past.size() > 6) {
                past.remove(0);
            }
        }
        return answer;
    }

    int rule(int r) {
        if (r < 0 || r > 3) {
            return BAD_VALUE;
        }
        World before = w.copy();
        w.rule = r;
        return changed(before, before.rule);
    }

    int begin() {
        World before = w.copy();
        return changed(before, doBegin());
    }

    int read(int t, int k) {
        World before = w.copy();
        return changed(before, doRead(t, k));
    }

    int write(int t, int k, int v) {
        World before = w.copy();
        return changed(before, doWrite(t, k, v));
    }

    int commit(int t) {
        World before = w.copy();
        return changed(before, doCommit(t));
    }

    int abort(int t) {
        World before = w.copy();
        return changed(before, doAbort(t));
    }

    private int doBegin() {
        if (w.all.size() == 12) {
            return TOO_MANY;
        }
        One one = new One();
        one.begin = ++w.now;
        for (int t = 0; t < w.all.size(); t++) {
            if (at(t).state == 0) {
                one.activeAtBegin.add(t);
            }
        }
        w.all.add(one);
        return w.all.size() - 1;
    }

    /** The writers of a key's versions, from the first one to the latest one. */
    private List<Integer> versions(int k) {
        List<Integer> writers = new ArrayList<>();
        for (int t = 0; t < w.all.size(); t++) {
            if (at(t).state == 1 && at(t).wrote[k] >= 0) {
                writers.add(t);
            }
        }
        writers.sort((a, b) -> Integer.compare(at(a).commit, at(b).commit));
        return writers;
    }

    /** The place of the version that a transaction's snapshot has among the versions; -1 is the version of nobody. */
    private int snapshotPlace(int t, int k) {
        List<Integer> writers = versions(k);
        int place = -1;
        for (int i = 0; i < writers.size(); i++) {
            if (at(writers.get(i)).commit < at(t).begin) {
                place = i;
            }
        }
        return place;
    }

    private int doRead(int t, int k) {
        if (!has(t) || !key(k)) {
            return NO_SUCH;
        }
        if (at(t).state != 0) {
            return NOT_POSSIBLE;
        }
        if (at(t).wrote[k] >= 0) {
            return at(t).wrote[k];
        }
        at(t).read[k] = true;
        int place = snapshotPlace(t, k);
        return place < 0 ? 0 : at(versions(k).get(place)).wrote[k];
    }

    private int doWrite(int t, int k, int v) {
        if (!has(t) || !key(k)) {
            return NO_SUCH;
        }
        if (v < 0 || v > 999) {
            return BAD_VALUE;
        }
        if (at(t).state != 0) {
            return NOT_POSSIBLE;
        }
        at(t).wrote[k] = v;
        return of(t, 4);
    }

    private int doCommit(int t) {
        int reason = would(t);
        if (reason < 0) {
            return reason;
        }
        if (reason > 0) {
            at(t).state = 2;
            at(t).why = reason;
        } else {
            at(t).state = 1;
            at(t).commit = ++w.now;
        }
        return reason;
    }

    private int doAbort(int t) {
        if (!has(t)) {
            return NO_SUCH;
        }
        if (at(t).state != 0) {
            return NOT_POSSIBLE;
        }
        at(t).state = 2;
        at(t).why = 0;
        return Integer.bitCount(count(1));
    }

    int value(int k) {
        if (!key(k)) {
            return NO_SUCH;
        }
        List<Integer> writers = versions(k);
        return writers.isEmpty() ? 0 : at(writers.get(writers.size() - 1)).wrote[k];
    }

    private boolean committedAheadOfBegin(int a, int b) {
        return at(a).state == 1 && at(a).commit < at(b).begin;
    }

    private List<Integer> edgeKeys(int a, int b) {
        List<Integer> keys = new ArrayList<>();
        boolean overlap = a != b && at(a).state != 2 && at(b).state != 2
            && !committedAheadOfBegin(a, b) && !committedAheadOfBegin(b, a);
        for (int k = 0; k < 16 && overlap; k++) {
            if (at(a).read[k] && at(b).wrote[k] >= 0) {
                keys.add(k);
            }
        }
        return keys;
    }

    private boolean isEdge(int a, int b) {
        return !edgeKeys(a, b).isEmpty();
    }

    int of(int t, int what) {
        if (!has(t)) {
            return NO_SUCH;
        }
        int set = 0;
        switch (what) {
            case 0:
                return at(t).state;
            case 1:
                return at(t).begin;
            case 2:
                return at(t).commit;
            case 3:
                for (int k = 0; k < 16; k++) {
                    set += at(t).read[k] ? 1 << k : 0;
                }
                return set;
            case 4:
                for (int k = 0; k < 16; k++) {
                    set += at(t).wrote[k] >= 0 ? 1 << k : 0;
                }
                return set;
            case 5:
                for (int u = 0; u < w.all.size(); u++) {
                    set += isEdge(t, u) ? 1 << u : 0;
                }
                return set;
            case 6:
                for (int u = 0; u < w.all.size(); u++) {
                    set += isEdge(u, t) ? 1 << u : 0;
                }
                return set;
            case 7:
                return at(t).why;
            case 8:
                return snapshot(t);
            default:
                return BAD_VALUE;
        }
    }

    private int snapshot(int t) {
        if (of(t, 4) != 0 || at(t).state == 2) {
            return NONE;
        }
        boolean ended = true;
        for (int u : at(t).activeAtBegin) {
            ended &= at(u).state != 0;
            for (int c = 0; c < w.all.size(); c++) {
                if (at(u).state == 1 && isEdge(u, c) && committedAheadOfBegin(c, t)) {
                    return 0;
                }
            }
        }
        return ended ? 1 : 2;
    }

    int edge(int a, int b) {
        return has(a) && has(b) ? isEdge(a, b) ? 1 : 0 : NO_SUCH;
    }

    int over(int a, int b) {
        if (!has(a) || !has(b)) {
            return NO_SUCH;
        }
        return isEdge(a, b) ? edgeKeys(a, b).get(0) : NONE;
    }

    /** Every triple as A, P, C, in the order of P, A, C. */
    private List<int[]> triples() {
        List<int[]> found = new ArrayList<>();
        boolean[][] edges = new boolean[w.all.size()][w.all.size()];
        for (int a = 0; a < w.all.size(); a++) {
            for (int b = 0; b < w.all.size(); b++) {
                edges[a][b] = isEdge(a, b);
            }
        }
        for (int p = 0; p < w.all.size(); p++) {
            for (int a = 0; a < w.all.size(); a++) {
                for (int c = 0; c < w.all.size(); c++) {
                    if (edges[a][p] && edges[p][c]) {
                        found.add(new int[] {a, p, c});
                    }
                }
            }
        }
        return found;
    }

    private int inState(int state) {
        int set = 0;
        for (int t = 0; t < w.all.size(); t++) {
            set += at(t).state == state ? 1 << t : 0;
        }
        return set;
    }

    int count(int what) {
        int number = 0;
        switch (what) {
            case 0:
                return w.all.size();
            case 1:
            case 2:
            case 3:
                return inState(what - 1);
            case 4:
                return w.now;
            case 5:
                return w.rule;
            case 6:
                for (int t = 0; t < w.all.size(); t++) {
                    number += Integer.bitCount(of(t, 5));
                }
                return number;
            case 7:
                for (int[] triple : triples()) {
                    number |= 1 << triple[1];
                }
                return number;
            case 8:
                return triples().size();
            case 9:
                return serial() ? 1 : 0;
            case 10:
                return pad.length();
            case 11:
                return past.size();
            default:
                return BAD_VALUE;
        }
    }

    private boolean[][] dependencies() {
        int n = w.all.size();
        boolean[][] to = new boolean[n][n];
        for (int k = 0; k < 16; k++) {
            List<Integer> writers = versions(k);
            for (int i = 0; i + 1 < writers.size(); i++) {
                to[writers.get(i)][writers.get(i + 1)] = true;
            }
            for (int t = 0; t < n; t++) {
                if (at(t).state == 1 && at(t).read[k]) {
                    int place = snapshotPlace(t, k);
                    if (place >= 0) {
                        to[writers.get(place)][t] = true;
                    }
                    if (place + 1 < writers.size()) {
                        to[t][writers.get(place + 1)] = true;
                    }
                }
            }
        }
        for (int t = 0; t < n; t++) {
            to[t][t] = false;
        }
        return to;
    }

    private boolean serial() {
        boolean[][] reach = dependencies();
        int n = w.all.size();
        for (int m = 0; m < n; m++) {
            for (int a = 0; a < n; a++) {
                for (int b = 0; b < n; b++) {
                    reach[a][b] |= reach[a][m] && reach[m][b];
                }
            }
        }
        for (int t = 0; t < n; t++) {
            if (reach[t][t]) {
                return false;
            }
        }
        return true;
    }

    int order(int place) {
        List<Integer> left = new ArrayList<>();
        for (int t = 0; t < w.all.size(); t++) {
            if (at(t).state == 1) {
                left.add(t);
            }
        }
        if (place < 0 || place >= left.size()) {
            return NO_SUCH;
        }
        if (!serial()) {
            return NOT_POSSIBLE;
        }
        boolean[][] to = dependencies();
        List<Integer> order = new ArrayList<>();
        while (!left.isEmpty()) {
            for (int t : left) {
                boolean free = true;
                for (int u : left) {
                    free &= !to[u][t];
                }
                if (free) {
                    order.add(t);
                    break;
                }
            }
            left.remove(order.get(order.size() - 1));
        }
        return order.get(place);
    }

    int sees(int t, int k) {
        if (!has(t) || !key(k)) {
            return NO_SUCH;
        }
        if (at(t).wrote[k] >= 0) {
            return t;
        }
        int place = snapshotPlace(t, k);
        return place < 0 ? NONE : versions(k).get(place);
    }

    int would(int t) {
        if (!has(t)) {
            return NO_SUCH;
        }
        return at(t).state != 0 ? NOT_POSSIBLE : reason(t, w.rule);
    }

    private int reason(int t, int rule) {
        for (int u = 0; u < w.all.size(); u++) {
            for (int k = 0; k < 16; k++) {
                if (at(u).state == 1 && at(u).commit > at(t).begin && at(u).wrote[k] >= 0 && at(t).wrote[k] >= 0) {
                    return 1;
                }
            }
        }
        return closed(t, rule) == null ? 0 : 2;
    }

    /** Commits the transaction in a copy of the world, and looks there. */
    private int[] closed(int t, int rule) {
        World real = w;
        w = w.copy();
        at(t).state = 1;
        at(t).commit = ++w.now;
        int[] first = null;
        for (int[] triple : triples()) {
            One a = at(triple[0]);
            One p = at(triple[1]);
            One c = at(triple[2]);
            boolean committed = a.state == 1 && p.state == 1 && c.state == 1;
            boolean among = triple[0] == t || triple[1] == t || triple[2] == t;
            boolean byRule1 = c.commit < p.commit && (c == a || c.commit < a.commit);
            boolean readsOnly = of(triple[0], 4) == 0;
            boolean byRule2 = byRule1 && (!readsOnly || c.commit < a.begin);
            boolean counts = rule == 0 || rule == 1 && byRule1 || rule == 2 && byRule2;
            if (first == null && committed && among && counts) {
                first = triple;
            }
        }
        w = real;
        return first;
    }

    int triple(int t, int what) {
        if (!has(t)) {
            return NO_SUCH;
        }
        if (what < 0 || what > 2) {
            return BAD_VALUE;
        }
        int reason = would(t);
        if (reason < 0) {
            return reason;
        }
        return reason == 2 ? closed(t, w.rule)[what] : NONE;
    }

    int doomed(int rule) {
        if (rule < 0 || rule > 3) {
            return BAD_VALUE;
        }
        int set = 0;
        for (int t = 0; t < w.all.size(); t++) {
            set += at(t).state == 0 && reason(t, rule) != 0 ? 1 << t : 0;
        }
        return set;
    }

    int put(long characters) {
        StringBuilder text = new StringBuilder();
        boolean ended = false;
        for (int i = 0; i < 8; i++) {
            int code = (int) (characters >>> 8 * i & 255);
            if (code != 0 && (ended || code < 33 || code > 126)) {
                return BAD_VALUE;
            }
            ended |= code == 0;
            if (code != 0) {
                text.insert(0, (char) code);
            }
        }
        if (text.length() == 0) {
            return BAD_VALUE;
        }
        if (pad.length() + text.length() > 80) {
            return TOO_MANY;
        }
        pad += text;
        return pad.length();
    }

    int wipe() {
        int length = pad.length();
        pad = "";
        return length;
    }

    int fault() {
        for (int end = 1; end <= pad.length(); end++) {
            Matcher matcher = TEXT.matcher(pad.substring(0, end));
            if (!matcher.matches() && !matcher.hitEnd()) {
                return end - 1;
            }
        }
        return TEXT.matcher(pad).matches() ? NONE : pad.length();
    }

    int carryOut() {
        if (fault() != NONE) {
            return BAD_TEXT;
        }
        World before = w.copy();
        int carried = 0;
        for (String order : pad.split(";")) {
            String[] parts = (order + "..").substring(1).split("[.=]");
            int[] n = new int[3];
            for (int i = 0; i < 3 && i < parts.length && !parts[i].isEmpty(); i++) {
                n[i] = Integer.parseInt(parts[i]);
            }
            char kind = order.charAt(0);
            int answer = kind == 'b' ? doBegin() : kind == 'r' ? doRead(n[0], n[1])
                : kind == 'w' ? doWrite(n[0], n[1], n[2]) : kind == 'c' ? doCommit(n[0]) : doAbort(n[0]);
            if (answer < 0) {
                break;
            }
            carried++;
        }
        pad = "";
        return changed(before, carried);
    }

    int undo() {
        if (past.isEmpty()) {
            return NOT_POSSIBLE;
        }
        w = past.remove(past.size() - 1);
        return past.size();
    }

    int save(int slot) {
        if (slot < 0 || slot > 1) {
            return BAD_VALUE;
        }
        slots[slot] = w.copy();
        return w.all.size();
    }

    int restore(int slot) {
        if (slot < 0 || slot > 1) {
            return BAD_VALUE;
        }
        if (slots[slot] == null) {
            return NOT_POSSIBLE;
        }
        World before = w;
        w = slots[slot].copy();
        return changed(before, w.all.size());
    }
}
