import java.util.function.IntUnaryOperator;

/** The terms' sentences on what a table means, and on exceptions and constants. */
final class TableSentences {
    private TableSentences() {
    }

    static void run() {
        Doc.each(
            TableSentences::firstState, TableSentences::pairs, TableSentences::reached, TableSentences::sent,
            TableSentences::lost, TableSentences::numbers, TableSentences::severalExceptions,
            TableSentences::constants);
    }

    static void row(String name, int[] due, IntUnaryOperator call) {
        for (int i = 0; i < due.length; i++) {
            int asked = i;
            Check.due(name + " " + i, due[i], () -> call.applyAsInt(asked));
        }
    }

    private static void firstState() {
        Doc.sentence(Doc.TERMS, "FIRST is the state told last by first, else the first one told.");
        Check.due("none told by first", 0, () -> Check.reading("ask c; state a, b; state d;").count(8));
        Check.due("told once", 1, () -> Check.reading("state a, b; first b; state d;").count(8));
        Check.due("told last", 2, () -> Check.reading("state a, b, c; first b; first a; first c;").count(8));
        Check.due("told last, the first one", 0, () -> Check.reading("state a, b, c; first b; first a;").count(8));
        Check.due("the last one of all", 15, () -> Check.reading(Texts.ALL_NAMES + "first p;").count(8));
        Check.due("no state", -1, () -> Check.reading("ask a;").count(8));
    }

    private static void pairs() {
        Doc.sentence(Doc.TERMS, "A PAIR of a state and an event has a RULE, or is NEVER, or is MISSING.");
        ProtocolText x = Check.reading("state a, c; ask b; message m; on a b: > c; never a m; on c m: > c;");
        row("next(0, .)", new int[] {1, -2}, e -> x.next(0, e));
        row("next(1, .)", new int[] {-1, 1}, e -> x.next(1, e));
        Check.due("each pair is one of them", 4, () -> x.count(4) + x.count(5) + x.count(6));
        ProtocolText all = Check.reading(Texts.ALL_NAMES);
        Check.due("all missing", 16 * 24, () -> all.count(6));
        ProtocolText none = Check.reading("state a, c;");
        Check.due("no event, no pair", 0, () -> none.count(4) + none.count(5) + none.count(6));
        ProtocolText stateless = Check.reading("ask b; message m;");
        Check.due("no state, no pair", 0, () -> stateless.count(4) + stateless.count(5) + stateless.count(6));
    }

    private static void reached() {
        Doc.sentence(Doc.TERMS, "States are REACHED from the first one by rules (whatever the event).");
        ProtocolText alone = Check.reading("state a, c; ask b; never a b;");
        row("without a rule only the first one", new int[] {1, 0}, s -> alone.reached(s, 0));
        ProtocolText x = Check.reading("state a, c, d, e, f; ask b; message m; first c;"
            + "on c b: > d; on d m: > e; on f b: > a; never e b; on a b: > c;");
        row("by asks and messages", new int[] {0, 1, 1, 1, 0}, s -> x.reached(s, 0));
        ProtocolText round = Check.reading("state a, c; ask b; on a b: > a; on c b: > a;");
        row("a rule that stays, one that comes in", new int[] {1, 0}, s -> round.reached(s, 0));
        ProtocolText last = Check.reading(Texts.ALL_NAMES + "on a an: > p; on p q: > o;");
        row("by the last event", new int[] {1, 0, 0, 0, 0, 0, 0, 0, 0, 0, 0, 0, 0, 0, 1, 1}, s -> last.reached(s, 0));
    }

    private static void sent() {
        Doc.sentence(Doc.TERMS, "A message is SENT, when a rule of a reached state sends it;");
        ProtocolText x = Check.reading("state a, c, d; ask b; message one, far, none, last, back;"
            + "on a b: send one, take, keep, send last > c; on c one: send back > a; on d b: send far > a;");
        row("message(k) & 1", new int[] {1, 0, 0, 1, 1}, k -> x.message(k) & 1);
        ProtocolText same = Check.reading("state a, f; ask b; message m; first f; on a b: send m > a;");
        Check.due("by a state that is not reached", 0, () -> same.message(0));
        ProtocolText takes = Check.reading("state a; ask b; message m; on a b: take, keep > a;");
        Check.due("take and keep send nothing", 0, () -> takes.message(0));
        ProtocolText awaits = Check.reading("state a; ask b; message m; on a m: > a;");
        Check.due("a rule for it does not send it", 0, () -> awaits.message(0));
        ProtocolText most = Check.reading(Texts.ALL_NAMES + "on a an: take, take, take, send an > a;");
        Check.due("the last message by the last action", 1, () -> most.message(15));
        Check.due("the first one is not sent", 0, () -> most.message(0));
    }

    private static void lost() {
        Doc.sentence(Doc.TERMS, "it is LOST, when it is sent, but no rule of a reached state is for it.");
        ProtocolText x = Check.reading("state a, c, d; ask b; message got, lost, never1, far, unsent;"
            + "on a b: send got, send lost, send never1, send far > c; on c got: > a; never c never1; never a never1;"
            + "on d far: > a;");
        row("message(k)", new int[] {1, 3, 3, 3, 0}, k -> x.message(k));
        ProtocolText self = Check.reading("state a; message m; on a m: send m > a;");
        Check.due("the rule that sends it is for it", 1, () -> self.message(0));
    }

    private static void numbers() {
        Doc.sentence(Doc.TERMS, "EVENTS are numbered: asks in their order, then messages in theirs; states in theirs.");
        ProtocolText x = Check.reading("message m; state z; on z m: send m > z; ask q; state a; message k; ask b;"
            + "on a q: > z; on a b: > a; never a m; on z k: send k > a;");
        row("next(0, .)", new int[] {-1, -1, 0, 1}, e -> x.next(0, e));
        row("next(1, .)", new int[] {0, 1, -2, -1}, e -> x.next(1, e));
        Check.due("a message among messages", 0, () -> x.action(0, 2, 0));
        Check.due("the later one", 1, () -> x.action(0, 3, 0));
        row("missing(.)", new int[] {0, 1, 103}, k -> x.missing(k));
        Check.due("no event 4", Check.INDEX, () -> x.next(0, 4));
        Check.due("no state 2", Check.INDEX, () -> x.next(2, 0));
    }

    private static void severalExceptions() {
        Doc.sentence(Doc.TERMS, "Of several exceptions the first one told is thrown.");
        ProtocolText x = new ProtocolText();
        Check.due("end(17) of nothing", Check.ARGUMENT, () -> x.end(17));
        Check.due("end(-1) of nothing", Check.ARGUMENT, () -> x.end(-1));
        Check.due("end(16) of nothing", Check.STATE, () -> x.end(16));
        x.feed(0, 0, 0, 0);
        x.end(15);
        Check.due("end(17) of fifteen", Check.ARGUMENT, () -> x.end(17));
        Check.due("end(0) of fifteen", Check.STATE, () -> x.end(0));
    }

    private static void constants() {
        Doc.sentence(Doc.TERMS, "The constants: `NONE = -1`: Nothing there.");
        Check.due("NONE", -1, () -> ProtocolText.NONE);
        Check.due("nothing there", ProtocolText.NONE, () -> new ProtocolText().count(8));
    }
}
