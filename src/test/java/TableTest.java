/** Promises 6 to 10 and 15: what was read, looked at. */
public final class TableTest {
    private static final int[] FAR = {Integer.MIN_VALUE, -100, -2, -1, 100, Integer.MAX_VALUE};

    public static void main(String[] args) {
        pairs();
        wrongIndexes();
        reaching();
        messages();
        firstState();
        counting();
        lateAsk();
        largest();
        Check.finish();
    }

    private static ProtocolText small() {
        return Check.reading("state i, s, m, lone; ask load, store; message data, inv, ack;"
            + "on i load: send data, keep > s; on i store: take, keep, send ack, send inv > m; never i inv;"
            + "on s store: > m; on m inv: take > i; never lone data; on lone ack: send inv > lone;");
    }

    private static void row(String name, int[] due, java.util.function.IntUnaryOperator call) {
        for (int i = 0; i < due.length; i++) {
            int asked = i;
            Check.due(name + " " + i, due[i], () -> call.applyAsInt(asked));
        }
    }

    private static void pairs() {
        ProtocolText x = small();
        row("next(0, .)", new int[] {1, 2, -1, -2, -1}, e -> x.next(0, e));
        row("next(1, .)", new int[] {-1, 2, -1, -1, -1}, e -> x.next(1, e));
        row("next(2, .)", new int[] {-1, -1, -1, 0, -1}, e -> x.next(2, e));
        row("next(3, .)", new int[] {-1, -1, -2, -1, 3}, e -> x.next(3, e));
        row("action(0, 0, .)", new int[] {0, 101, -1, -1, -1, -1}, i -> x.action(0, 0, i));
        row("action(0, 1, .)", new int[] {100, 101, 2, 1, -1, -1}, i -> x.action(0, 1, i));
        row("action(0, 2, .), missing", new int[] {-1, -1}, i -> x.action(0, 2, i));
        row("action(0, 3, .), never", new int[] {-1, -1}, i -> x.action(0, 3, i));
        row("action(1, 1, .), empty", new int[] {-1, -1}, i -> x.action(1, 1, i));
        Check.due("action(3, 4, 0)", 1, () -> x.action(3, 4, 0));
        Check.due("action far behind", -1, () -> x.action(0, 1, Integer.MAX_VALUE));
        row("missing", new int[] {2, 4, 100, 102, 103, 104, 200, 201, 202, 204, 300, 301, 303}, k -> x.missing(k));
        Check.due("missing(13)", Check.INDEX, () -> x.missing(13));
    }

    private static void wrongIndexes() {
        ProtocolText x = small();
        for (int far : FAR) {
            Check.due("next(far, 0)", Check.INDEX, () -> x.next(far, 0));
            Check.due("next(0, far)", Check.INDEX, () -> x.next(0, far));
            Check.due("action(far, 0, 0)", Check.INDEX, () -> x.action(far, 0, 0));
            Check.due("action(0, far, 0)", Check.INDEX, () -> x.action(0, far, 0));
            Check.due("action(0, 0, far)", far < 0 ? Check.INDEX : "-1", () -> x.action(0, 0, far));
            Check.due("action(0, 2, far)", far < 0 ? Check.INDEX : "-1", () -> x.action(0, 2, far));
            Check.due("missing(far)", Check.INDEX, () -> x.missing(far));
            Check.due("reached(far, 0)", Check.INDEX, () -> x.reached(far, 0));
            Check.due("reached(far, 1)", Check.INDEX, () -> x.reached(far, 1));
            Check.due("reached(0, far)", Check.INDEX, () -> x.reached(0, far));
            Check.due("message(far)", Check.INDEX, () -> x.message(far));
            Check.due("count(far)", -1, () -> x.count(far));
        }
        Check.due("next(4, 0)", Check.INDEX, () -> x.next(4, 0));
        Check.due("next(0, 5)", Check.INDEX, () -> x.next(0, 5));
        Check.due("action(4, 0, 0)", Check.INDEX, () -> x.action(4, 0, 0));
        Check.due("action(0, 5, 0)", Check.INDEX, () -> x.action(0, 5, 0));
        Check.due("reached(4, 0)", Check.INDEX, () -> x.reached(4, 0));
        Check.due("reached(0, 2)", Check.INDEX, () -> x.reached(0, 2));
        Check.due("message(3)", Check.INDEX, () -> x.message(3));
        Check.due("count(10)", -1, () -> x.count(10));
        ProtocolText noEvent = Check.reading("state a;");
        Check.due("next without events", Check.INDEX, () -> noEvent.next(0, 0));
        ProtocolText noState = Check.reading("ask a; message b;");
        Check.due("next without states", Check.INDEX, () -> noState.next(0, 0));
        Check.due("message without states", 0, () -> noState.message(0));
    }

    private static void reaching() {
        ProtocolText x = small();
        row("reached(., 0)", new int[] {1, 1, 1, 0}, s -> x.reached(s, 0));
        row("reached(., 1)", new int[] {0, 1, 1, -1}, s -> x.reached(s, 1));
        ProtocolText chain = Check.reading("state a,b,c,d,e,f,g,h,i,j,k,l,m,n,o,p; ask x, y; first p;"
            + "on p x:>o;on o x:>n;on n x:>m;on m x:>l;on l x:>k;on k x:>j;on j x:>i;on i x:>h;on h x:>g;on g x:>f;"
            + "on f x:>e;on e x:>d;on d x:>c;on c x:>b;on b x:>a; on a x:>p;");
        for (int s = 0; s < 16; s++) {
            int state = s;
            Check.due("chain: reached(" + s + ", 1)", 15 - s, () -> chain.reached(state, 1));
        }
        ProtocolText shorter = Check.reading("state a,b,c,d; ask x, y; message m;"
            + "on a x:>b; on b x:>c; on c x:>d; on b m:>d; never a y; on d y:>a;");
        row("shorter: reached(., 1)", new int[] {0, 1, 2, 2}, s -> shorter.reached(s, 1));
        ProtocolText back = Check.reading("state a,b,c; ask x; on b x:>a; on c x:>b; on a x:>a;");
        row("back: reached(., 0)", new int[] {1, 0, 0}, s -> back.reached(s, 0));
        row("back: reached(., 1)", new int[] {0, -1, -1}, s -> back.reached(s, 1));
    }

    private static void messages() {
        ProtocolText x = small();
        row("message", new int[] {3, 1, 3}, k -> x.message(k));
        ProtocolText y = Check.reading("state a, b; ask x; message unsent, awaited, lost, far, denied, own, late;"
            + "on a x: send awaited, send lost, send denied, send late > a; on a awaited: > a; on a unsent: > a;"
            + "on b x: send far > b; on b lost: > a; never a denied; on a own: send own > a; on a late: keep, take > a;");
        row("kinds of message", new int[] {0, 1, 3, 0, 3, 1, 1}, k -> y.message(k));
        // 100 and 101 stand for take and keep, not for messages.
        ProtocolText z = Check.reading("state a; ask x; message p; on a x: take, keep > a;");
        Check.due("nothing sent", 0, () -> z.message(0));
    }

    private static void firstState() {
        Check.due("none told", 0, () -> Check.reading("state a, b;").count(8));
        Check.due("told", 1, () -> Check.reading("state a, b; first b; state c;").count(8));
        Check.due("told last", 2, () -> Check.reading("state a, b, c; first b; first a; first c;").count(8));
        Check.due("told back", 0, () -> Check.reading("state a, b, c; first b; first a;").count(8));
        Check.due("without states", -1, () -> Check.reading("ask a;").count(8));
    }

    private static void counting() {
        ProtocolText x = small();
        row("count", new int[] {0, 4, 2, 3, 5, 2, 13, 10, 0, 0, -1}, what -> x.count(what));
        x.feed(0, 0, 0, 0);
        x.draw();
        Check.due("count(0)", 16, () -> x.count(0));
        Check.due("count(9)", Check.page(x).length(), () -> x.count(9));
        x.print();
        Check.due("count(9)", Check.page(x).length(), () -> x.count(9));
    }

    private static void lateAsk() {
        ProtocolText x = Check.reading("message m; state a; on a m: send m > a; ask p; never a p; message n; ask q;");
        row("next behind a late ask", new int[] {-2, -1, 0, -1}, e -> x.next(0, e));
        Check.due("action behind a late ask", 0, () -> x.action(0, 2, 0));
        Check.due("its message", 1, () -> x.message(0));
        row("missing behind a late ask", new int[] {1, 3}, k -> x.missing(k));
    }

    private static void largest() {
        ProtocolText x = Check.reading(Texts.ALL_NAMES);
        Check.due("largest: missing pairs", 384, () -> x.count(6));
        Check.due("largest: of reached states", 24, () -> x.count(7));
        for (int k = 0; k < 384; k++) {
            int asked = k;
            Check.due("largest: missing(" + k + ")", k / 24 * 100 + k % 24, () -> x.missing(asked));
        }
        Check.due("largest: missing(384)", Check.INDEX, () -> x.missing(384));
        Check.due("largest: next(15, 23)", -1, () -> x.next(15, 23));
        Check.due("largest: next(16, 0)", Check.INDEX, () -> x.next(16, 0));
        Check.due("largest: next(0, 24)", Check.INDEX, () -> x.next(0, 24));
    }
}
