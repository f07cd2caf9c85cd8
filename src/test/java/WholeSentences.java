import java.util.function.Consumer;

/** What the document says of the whole: what it is, how long an object is used, and that nothing else changes. */
final class WholeSentences {
    private static final int BLANKS = 0x20202020;
    private static final String TABLE = "state a, c, lone; ask b; message m; on a b: send m, take > c; never a m;";
    private static final String SOUND = "state q; message r; on q r: > q;";
    private static final String FAULTY = "state q; message r; on q q: > q;";

    private WholeSentences() {
    }

    static void run() {
        Doc.each(
            WholeSentences::table, WholeSentences::calls, WholeSentences::nothingElse, WholeSentences::noOtherObject);
    }

    private static void table() {
        Doc.sentence(Doc.IS, "Tables of how nodes keep lines alike, read from texts: states, what processors ask, messages, "
            + "a rule for each state and event; missing pairs, states and messages that nothing leads to; "
            + "printed again, and drawn as a table.");
        String text = "state invalid, shared, modified, owned; ask load, store; message data, inv, nack;\n"
            + "on invalid load: send data > shared; on invalid store: send data, send inv > modified;\n"
            + "never invalid data; on shared store: send inv > modified; on shared inv: > invalid;\n"
            + "on modified inv: send data, keep > invalid; on owned nack: send nack > shared; never shared nack;\n";
        ProtocolText x = Check.reading(text);
        TableSentences.row("count", new int[] {0, 4, 2, 3, 6, 2, 12, 8, 0, 0}, what -> x.count(what));
        TableSentences.row("missing pairs", new int[] {3, 4, 100, 102, 200, 201, 202, 204, 300, 301, 302, 303},
            k -> x.missing(k));
        TableSentences.row("states", new int[] {1, 1, 1, 0}, state -> x.reached(state, 0));
        TableSentences.row("messages", new int[] {3, 1, 0}, k -> x.message(k));
        String printing = "state invalid, shared, modified, owned;\nask load, store;\nmessage data, inv, nack;\n"
            + "first invalid;\non invalid load: send data > shared;\n"
            + "on invalid store: send data, send inv > modified;\nnever invalid data;\n"
            + "on shared store: send inv > modified;\non shared inv: > invalid;\nnever shared nack;\n"
            + "on modified inv: send data, keep > invalid;\non owned nack: send nack > shared;\n";
        Check.same("printed", printing, Check.printed(x));
        x.again();
        Check.due("what was printed is read", 6, () -> x.read());
        Check.same("and drawn", "         load   store    data inv     nack\n"
            + "invalid  shared modified -    ?       ?\n"
            + "shared   ?      modified ?    invalid -\n"
            + "modified ?      ?        ?    invalid ?\n"
            + "owned    ?      ?        ?    ?       shared\n", Check.drawn(x));
        ProtocolText y = Check.reading(printing);
        Check.same("and printed again", printing, Check.printed(y));
    }

    private static void calls() {
        Doc.sentence(Doc.IS, "An object is used for at most 512 calls after it has been made; what later calls answer is free.");
        ProtocolText x = new ProtocolText();
        for (int call = 1; call <= 255; call++) {
            x.feed(BLANKS, BLANKS, BLANKS, BLANKS);
        }
        x.feed(BLANKS, BLANKS, 0x73746174, 0x6520613b);
        Check.due("call 257", 0, () -> x.read());
        x.print();
        for (int call = 259; call <= 511; call++) {
            x.again();
        }
        Check.due("call 512", 0, () -> x.read());
    }

    /** Calls that only ask leave everything as it is, and so does every call that throws, but for read(). */
    private static void nothingElse() {
        Doc.sentence("Not promised", "Nothing is promised beyond the answers and state changes described above, "
            + "and nothing about an object after its 512th call.");
        for (String waiting : new String[] {SOUND, FAULTY, ""}) {
            for (boolean refused : new boolean[] {false, true}) {
                String due = whole(prepared(waiting, refused));
                for (int n : new int[] {Integer.MIN_VALUE, -1, 0, 1, 2, 3, 9, 17, Integer.MAX_VALUE}) {
                    same("fault, " + n, due, waiting, refused, x -> x.fault(n));
                    same("next, " + n, due, waiting, refused, x -> x.next(n, 0));
                    same("next, 0, " + n, due, waiting, refused, x -> x.next(0, n));
                    same("action, " + n, due, waiting, refused, x -> x.action(0, n, 0));
                    same("action, 0, 0, " + n, due, waiting, refused, x -> x.action(0, 0, n));
                    same("missing, " + n, due, waiting, refused, x -> x.missing(n));
                    same("reached, " + n, due, waiting, refused, x -> x.reached(n, 1));
                    same("reached, 0, " + n, due, waiting, refused, x -> x.reached(0, n));
                    same("message, " + n, due, waiting, refused, x -> x.message(n));
                    same("out, " + n, due, waiting, refused, x -> x.out(n));
                    same("count, " + n, due, waiting, refused, x -> x.count(n));
                }
                same("end of too many", due, waiting, refused, x -> x.end(17));
                same("end of too few", due, waiting, refused, x -> x.end(-1));
                same("end(16)", due, waiting, refused, x -> x.end(16));
                same("the same printed or drawn once more", due, waiting, refused, x -> show(x, refused));
            }
        }
    }

    private static void same(String what, String due, String waiting, boolean refused, Consumer<ProtocolText> call) {
        ProtocolText x = prepared(waiting, refused);
        try {
            call.accept(x);
        } catch (IllegalArgumentException | IllegalStateException | IndexOutOfBoundsException e) {
            // Whether it is due is looked at by the tests of the promises.
        }
        Check.same(what + " behind [" + waiting + "]", due, whole(x));
    }

    /** A table was read and printed, or a text refused and nothing drawn; then comes a text that waits. */
    private static ProtocolText prepared(String waiting, boolean refused) {
        ProtocolText x = new ProtocolText();
        if (refused) {
            Check.feedText(x, "state z;$");
            Check.answer(() -> x.read());
        } else {
            Check.feedText(x, TABLE);
            x.read();
        }
        show(x, refused);
        Check.feedText(x, waiting);
        return x;
    }

    private static void show(ProtocolText x, boolean refused) {
        if (refused) {
            x.draw();
        } else {
            x.print();
        }
    }

    /** All that the object answers, and then what it answers when the waiting text has been read. */
    private static String whole(ProtocolText x) {
        StringBuilder all = new StringBuilder();
        all.append(Check.page(x)).append(table(x));
        all.append(" read ").append(Check.answer(() -> x.read()));
        all.append(Check.page(x)).append(table(x));
        return all.toString();
    }

    private static String table(ProtocolText x) {
        StringBuilder all = new StringBuilder();
        for (int what = 0; what <= 9; what++) {
            all.append(' ').append(x.count(what));
        }
        all.append(" fault ").append(x.fault(0)).append(' ').append(x.fault(1));
        for (int state = 0; state < x.count(1); state++) {
            all.append(" state ").append(x.reached(state, 0)).append(' ').append(x.reached(state, 1));
            for (int event = 0; event < x.count(2) + x.count(3); event++) {
                all.append(' ').append(x.next(state, event));
                all.append(':').append(x.action(state, event, 0)).append(',').append(x.action(state, event, 1));
            }
        }
        for (int k = 0; k < x.count(3); k++) {
            all.append(" message ").append(x.message(k));
        }
        return all.toString();
    }

    private static void noOtherObject() {
        Doc.sentence("Promise 1: A new object", "An empty text, nothing read.");
        ProtocolText x = prepared(SOUND, false);
        String due = whole(prepared(SOUND, false));
        ProtocolText other = Check.reading(Texts.ALL_NAMES + "on a q: send an > p; never p an; first p;");
        other.draw();
        Check.feedText(other, FAULTY);
        Check.answer(() -> other.read());
        Check.same("calls of another object change nothing", due, whole(x));
    }
}
