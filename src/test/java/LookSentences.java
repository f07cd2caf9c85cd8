/** Promises 6 to 10 and 15: looking at what was read. */
final class LookSentences {
    private static final String NEXT = "Promise 6: next";
    private static final String ACTION = "Promise 7: action";
    private static final String MISSING = "Promise 8: missing";
    private static final String REACHED = "Promise 9: reached";
    private static final String MESSAGE = "Promise 10: message";
    private static final String COUNT = "Promise 15: count";
    /** Numbers that no index may have, though a byte or a product of some would wrap around to one. */
    private static final int[] FAR =
        {-1, -2, -100, 100, 256, 65536, 1 << 28, 1 << 30, -(1 << 30), Integer.MIN_VALUE, Integer.MAX_VALUE};
    /** States 0 to 3, events 0 to 4, messages 0 to 2. */
    private static final String SMALL = "state i, s, m, lone; ask load, store; message data, inv, ack;"
        + "on i load: send data, keep > s; on i store: take, keep, send ack, send inv > m; never i inv;"
        + "on s store: > m; on m inv: take > i; never lone data; on lone ack: send inv > lone;";

    private LookSentences() {
    }

    static void run() {
        Doc.each(
            LookSentences::next, LookSentences::nextWrong, LookSentences::action, LookSentences::actionWrong,
            LookSentences::missing, LookSentences::missingWrong, LookSentences::reached, LookSentences::reachedWrong,
            LookSentences::message, LookSentences::messageWrong, LookSentences::count, LookSentences::countOther);
    }

    private static void next() {
        Doc.sentence(NEXT, "The state that a pair's rule leads to; NONE when it is missing, -2 when never.");
        ProtocolText x = Check.reading(SMALL);
        TableSentences.row("next(0, .)", new int[] {1, 2, -1, -2, -1}, e -> x.next(0, e));
        TableSentences.row("next(1, .)", new int[] {-1, 2, -1, -1, -1}, e -> x.next(1, e));
        TableSentences.row("next(2, .)", new int[] {-1, -1, -1, 0, -1}, e -> x.next(2, e));
        TableSentences.row("next(3, .)", new int[] {-1, -1, -2, -1, 3}, e -> x.next(3, e));
        ProtocolText most = Check.reading(Texts.ALL_NAMES + "on a q:>p; on p an:>a; never p q; never a an;");
        Check.due("the first pair", 15, () -> most.next(0, 0));
        Check.due("the first state, the last event", -2, () -> most.next(0, 23));
        Check.due("the last state, the first event", -2, () -> most.next(15, 0));
        Check.due("the last pair", 0, () -> most.next(15, 23));
    }

    private static void nextWrong() {
        Doc.sentence(NEXT, "IndexOutOfBoundsException, when there is no such state or event.");
        ProtocolText x = Check.reading(SMALL);
        for (int far : FAR) {
            Check.due("next(" + far + ", 0)", Check.INDEX, () -> x.next(far, 0));
            Check.due("next(0, " + far + ")", Check.INDEX, () -> x.next(0, far));
            Check.due("next(1, " + far + ")", Check.INDEX, () -> x.next(1, far));
        }
        Check.due("behind the last state", Check.INDEX, () -> x.next(4, 0));
        Check.due("behind the last event", Check.INDEX, () -> x.next(0, 5));
        Check.due("the last ones", 3, () -> x.next(3, 4));
        ProtocolText most = Check.reading(Texts.ALL_NAMES);
        Check.due("a state of 16", Check.INDEX, () -> most.next(16, 0));
        Check.due("an event of 24", Check.INDEX, () -> most.next(0, 24));
        Check.due("no event", Check.INDEX, () -> Check.reading("state a;").next(0, 0));
        Check.due("no state", Check.INDEX, () -> Check.reading("ask a;").next(0, 0));
        Check.due("nothing read", Check.INDEX, () -> new ProtocolText().next(0, 0));
    }

    private static void action() {
        Doc.sentence(ACTION, "Action i of a pair's rule: a message's number among messages, or 100 for take, "
            + "101 for keep; NONE behind the last one, or without a rule.");
        ProtocolText x = Check.reading(SMALL);
        TableSentences.row("two", new int[] {0, 101, -1, -1, -1, -1}, i -> x.action(0, 0, i));
        TableSentences.row("four", new int[] {100, 101, 2, 1, -1, -1}, i -> x.action(0, 1, i));
        TableSentences.row("none", new int[] {-1, -1, -1, -1, -1}, i -> x.action(1, 1, i));
        TableSentences.row("missing", new int[] {-1, -1, -1, -1, -1}, i -> x.action(0, 2, i));
        TableSentences.row("never", new int[] {-1, -1, -1, -1, -1}, i -> x.action(0, 3, i));
        TableSentences.row("the last pair", new int[] {1, -1, -1, -1, -1}, i -> x.action(3, 4, i));
        for (int behind : new int[] {4, 5, 256, 1 << 28, 1 << 30, Integer.MAX_VALUE}) {
            Check.due("action(0, 1, " + behind + ")", -1, () -> x.action(0, 1, behind));
            Check.due("action(3, 4, " + behind + ")", -1, () -> x.action(3, 4, behind));
            Check.due("missing, " + behind, -1, () -> x.action(0, 2, behind));
        }
        ProtocolText most = Check.reading(Texts.ALL_NAMES + "on p an: send y, send an, take, keep > a;");
        TableSentences.row("the most", new int[] {0, 15, 100, 101, -1}, i -> most.action(15, 23, i));
    }

    private static void actionWrong() {
        Doc.sentence(ACTION, "IndexOutOfBoundsException, when there is no such state or event, or i is below 0.");
        ProtocolText x = Check.reading(SMALL);
        for (int far : FAR) {
            Check.due("action(" + far + ", 0, 0)", Check.INDEX, () -> x.action(far, 0, 0));
            Check.due("action(0, " + far + ", 0)", Check.INDEX, () -> x.action(0, far, 0));
            Check.due("action(" + far + ", " + far + ", 9)", Check.INDEX, () -> x.action(far, far, 9));
        }
        Check.due("behind the last state", Check.INDEX, () -> x.action(4, 0, 0));
        Check.due("behind the last event", Check.INDEX, () -> x.action(0, 5, 0));
        for (int below : new int[] {-1, -2, -4, -(1 << 30), Integer.MIN_VALUE}) {
            Check.due("action(0, 1, " + below + ")", Check.INDEX, () -> x.action(0, 1, below));
            Check.due("missing, " + below, Check.INDEX, () -> x.action(0, 2, below));
            Check.due("never, " + below, Check.INDEX, () -> x.action(0, 3, below));
        }
        Check.due("no event", Check.INDEX, () -> Check.reading("state a;").action(0, 0, 0));
        Check.due("no state", Check.INDEX, () -> Check.reading("ask a;").action(0, 0, 0));
        Check.due("nothing read", Check.INDEX, () -> new ProtocolText().action(0, 0, 0));
    }

    private static void missing() {
        Doc.sentence(MISSING, "The k-th missing pair, state by state, event by event: state * 100 + event.");
        ProtocolText x = Check.reading(SMALL);
        TableSentences.row("missing", new int[] {2, 4, 100, 102, 103, 104, 200, 201, 202, 204, 300, 301, 303}, k -> x.missing(k));
        ProtocolText most = Check.reading(Texts.ALL_NAMES);
        for (int k = 0; k < 384; k++) {
            int asked = k;
            Check.due("missing(" + k + ") of all", k / 24 * 100 + k % 24, () -> most.missing(asked));
        }
    }

    private static void missingWrong() {
        Doc.sentence(MISSING, "IndexOutOfBoundsException, when there is none.");
        ProtocolText x = Check.reading(SMALL);
        for (int far : FAR) {
            Check.due("missing(" + far + ")", Check.INDEX, () -> x.missing(far));
        }
        Check.due("the last one", 303, () -> x.missing(12));
        Check.due("behind the last one", Check.INDEX, () -> x.missing(13));
        ProtocolText most = Check.reading(Texts.ALL_NAMES);
        Check.due("behind all", Check.INDEX, () -> most.missing(384));
        ProtocolText full = Check.reading(Texts.ABM + "on a b: > a; never a m;");
        Check.due("none is missing", Check.INDEX, () -> full.missing(0));
        Check.due("no event", Check.INDEX, () -> Check.reading("state a;").missing(0));
        Check.due("no state", Check.INDEX, () -> Check.reading("ask a;").missing(0));
        Check.due("nothing read", Check.INDEX, () -> new ProtocolText().missing(0));
    }

    private static void reached() {
        Doc.sentence(REACHED, "Of a state whether it is reached (1), by how few rules from the first one "
            + "(what 1; NONE when it is not); what 0 the former.");
        ProtocolText x = Check.reading(SMALL);
        TableSentences.row("reached(., 0)", new int[] {1, 1, 1, 0}, s -> x.reached(s, 0));
        TableSentences.row("reached(., 1)", new int[] {0, 1, 1, -1}, s -> x.reached(s, 1));
        ProtocolText few = Check.reading("state a,b,c,d; ask x, y; message m;"
            + "on a x:>b; on b x:>c; on c x:>d; on b m:>d; never a y; on d y:>a;");
        TableSentences.row("the fewest", new int[] {0, 1, 2, 2}, s -> few.reached(s, 1));
        StringBuilder chain = new StringBuilder("state " + Texts.SIXTEEN + ";ask q;message r;first p;on a q:>p;");
        for (int s = 15; s > 0; s--) {
            chain.append("on ").append((char) ('a' + s)).append(s % 2 == 0 ? " q" : " r");
            chain.append(":>").append((char) ('a' + s - 1)).append(";");
        }
        ProtocolText most = Check.reading(chain.toString());
        for (int s = 0; s < 16; s++) {
            int state = s;
            Check.due("the most: reached(" + s + ", 0)", 1, () -> most.reached(state, 0));
            Check.due("the most: reached(" + s + ", 1)", 15 - s, () -> most.reached(state, 1));
        }
        ProtocolText alone = Check.reading("state a;");
        Check.due("one state alone", 1, () -> alone.reached(0, 0));
        Check.due("is the first one", 0, () -> alone.reached(0, 1));
    }

    private static void reachedWrong() {
        Doc.sentence(REACHED, "IndexOutOfBoundsException, when there is no such state or what.");
        ProtocolText x = Check.reading(SMALL);
        for (int far : FAR) {
            Check.due("reached(" + far + ", 0)", Check.INDEX, () -> x.reached(far, 0));
            Check.due("reached(" + far + ", 1)", Check.INDEX, () -> x.reached(far, 1));
            Check.due("reached(0, " + far + ")", Check.INDEX, () -> x.reached(0, far));
        }
        Check.due("behind the last state", Check.INDEX, () -> x.reached(4, 0));
        Check.due("behind the last state", Check.INDEX, () -> x.reached(4, 1));
        Check.due("what 2", Check.INDEX, () -> x.reached(0, 2));
        Check.due("a state of 16", Check.INDEX, () -> Check.reading(Texts.ALL_NAMES).reached(16, 0));
        Check.due("no state", Check.INDEX, () -> Check.reading("ask a;").reached(0, 0));
        Check.due("nothing read", Check.INDEX, () -> new ProtocolText().reached(0, 1));
    }

    private static void message() {
        Doc.sentence(MESSAGE, "Whether message k is sent (1), and lost (2 more).");
        ProtocolText x = Check.reading(SMALL);
        TableSentences.row("message", new int[] {3, 1, 3}, k -> x.message(k));
        ProtocolText not = Check.reading("ask b; message m, n; state a; on a n: > a;");
        TableSentences.row("not sent, so not lost", new int[] {0, 0}, k -> not.message(k));
        ProtocolText most = Check.reading(Texts.ALL_NAMES + "on a q: send y, send an > p; on p y: > a;");
        Check.due("the first one of sixteen", 1, () -> most.message(0));
        Check.due("the last one of sixteen", 3, () -> most.message(15));
        Check.due("without a state", 0, () -> Check.reading("message m;").message(0));
    }

    private static void messageWrong() {
        Doc.sentence(MESSAGE, "IndexOutOfBoundsException, when there is none.");
        ProtocolText x = Check.reading(SMALL);
        for (int far : FAR) {
            Check.due("message(" + far + ")", Check.INDEX, () -> x.message(far));
        }
        Check.due("behind the last one", Check.INDEX, () -> x.message(3));
        Check.due("behind sixteen", Check.INDEX, () -> Check.reading(Texts.ALL_NAMES).message(16));
        Check.due("asks are none", Check.INDEX, () -> Check.reading("state a; ask b;").message(0));
        Check.due("nothing read", Check.INDEX, () -> new ProtocolText().message(0));
    }

    private static void count() {
        Doc.sentence(COUNT, "Bytes of the text (0), states (1), asks (2), messages (3), rules (4), nevers (5), "
            + "missing pairs (6), of these those of reached states (7), the first state (8; NONE), "
            + "bytes printed or drawn (9).");
        ProtocolText none = new ProtocolText();
        TableSentences.row("new: count", new int[] {0, 0, 0, 0, 0, 0, 0, 0, -1, 0}, what -> none.count(what));
        ProtocolText x = Check.reading(SMALL + "first s;");
        TableSentences.row("count", new int[] {0, 4, 2, 3, 5, 2, 13, 10, 1, 0}, what -> x.count(what));
        x.feed(0, 0, 0, 0);
        Check.due("bytes fed", 16, () -> x.count(0));
        Check.due("bytes printed", x.print(), () -> x.count(9));
        Check.due("bytes drawn", x.draw(), () -> x.count(9));
        ProtocolText most = Check.reading(Texts.ALL_NAMES);
        TableSentences.row("all names: count", new int[] {0, 16, 8, 16, 0, 0, 384, 24, 0, 0}, what -> most.count(what));
        ProtocolText stateless = Check.reading("ask b, c; message m;");
        TableSentences.row("no state: count", new int[] {0, 0, 2, 1, 0, 0, 0, 0, -1, 0}, what -> stateless.count(what));
        ProtocolText full = Check.reading(Texts.ABM + "on a b: > a; never a m;");
        TableSentences.row("none missing: count", new int[] {0, 1, 1, 1, 1, 1, 0, 0, 0, 0}, what -> full.count(what));
    }

    private static void countOther() {
        Doc.sentence(COUNT, "NONE for another what.");
        ProtocolText x = Check.reading(SMALL);
        Check.due("count(10)", -1, () -> x.count(10));
        for (int far : FAR) {
            Check.due("count(" + far + ")", -1, () -> x.count(far));
            Check.due("nothing read: count(" + far + ")", -1, () -> new ProtocolText().count(far));
        }
    }
}
