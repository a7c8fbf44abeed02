/** What an object answers to the calls that change nothing, as one text: two objects with the same text are alike. */
final class Answers {
    /** With more transactions than these the calls would come near to the 512 that an object is good for. */
    private static final int TOLD = 4;

    private Answers() {
    }

    static String of(SkewEdges x) {
        StringBuilder all = new StringBuilder();
        int total = Math.min(x.count(0), TOLD);
        for (int what = 0; what < 12; what++) {
            tell(all, "count", what, x.count(what));
        }
        for (int key = 0; key < 16; key++) {
            tell(all, "value", key, x.value(key));
        }
        for (int rule = 0; rule < 4; rule++) {
            tell(all, "doomed", rule, x.doomed(rule));
        }
        for (int place = 0; place < total; place++) {
            tell(all, "order", place, x.order(place));
        }
        tell(all, "fault", 0, x.fault());
        for (int transaction = 0; transaction < total; transaction++) {
            one(all, x, transaction, total);
        }
        return all.toString();
    }

    private static void one(StringBuilder all, SkewEdges x, int transaction, int total) {
        all.append('#').append(transaction).append(' ');
        for (int what = 0; what < 9; what++) {
            tell(all, "of", what, x.of(transaction, what));
        }
        for (int other = 0; other < total; other++) {
            tell(all, "edge", other, x.edge(transaction, other));
            tell(all, "over", other, x.over(transaction, other));
        }
        for (int key = 0; key < 16; key++) {
            tell(all, "sees", key, x.sees(transaction, key));
        }
        tell(all, "would", transaction, x.would(transaction));
        for (int what = 0; what < 3; what++) {
            tell(all, "triple", what, x.triple(transaction, what));
        }
    }

    private static void tell(StringBuilder all, String call, int argument, int answer) {
        all.append(call).append(argument).append('=').append(answer).append(' ');
    }
}
