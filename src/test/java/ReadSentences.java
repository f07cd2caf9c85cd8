/** Promises 4 and 5. */
final class ReadSentences {
    private static final String READ = "Promise 4: read";
    private static final String FAULT = "Promise 5: fault";
    private static final String RICH =
        "state a, z; ask b; message m; first z; on a b: send m, take > z; never a m; on z b: send m > a;";

    private ReadSentences() {
    }

    static void run() {
        Doc.each(
            ReadSentences::howManyRules, ReadSentences::goneBefore, ReadSentences::refused,
            ReadSentences::latestFault, ReadSentences::noSuchWhat);
    }

    private static void howManyRules() {
        Doc.sentence(READ, "Reads the text, which is empty then: how many rules it has.");
        ProtocolText x = new ProtocolText();
        Check.due("the empty text", 0, () -> x.read());
        Check.feedText(x, RICH);
        Check.due("rules, not nevers", 2, () -> x.read());
        Check.due("the text is empty", 0, () -> x.count(0));
        Check.due("feed begins anew", 16, () -> x.feed(0x73746174, 0x6520613b, 0x23232323, 0x23232323));
        Check.due("read() of that alone", 0, () -> x.read());
        ProtocolText dense = new ProtocolText();
        Check.feedText(dense, Texts.dense());
        int rules = Texts.dense().split("on ").length - 1;
        Check.due("as many as fit", rules, () -> dense.read());
        Check.due("are there", rules, () -> dense.count(4));
    }

    private static void goneBefore() {
        Doc.sentence(READ, "What was read before is gone.");
        ProtocolText x = Check.reading(RICH);
        Check.feedText(x, "state q; ask b; message m;");
        Check.due("the next read()", 0, () -> x.read());
        Check.same("names, first, rules", "state q;\nask b;\nmessage m;\nfirst q;\n", Check.printed(x));
        Check.due("the other state", Check.INDEX, () -> x.reached(1, 0));
        Check.due("rules", 0, () -> x.count(4));
        Check.due("nevers", 0, () -> x.count(5));
        Check.due("a pair's rule", -1, () -> x.next(0, 0));
        Check.due("its action", -1, () -> x.action(0, 0, 0));
        Check.due("what was sent", 0, () -> x.message(0));
        Check.feedText(x, "state q, r; ask b; message m; on q b: > q;");
        Check.due("a rule where one was", 1, () -> x.read());
        Check.due("has no action of that", -1, () -> x.action(0, 0, 0));
        Check.due("nor reaches by it", 0, () -> x.reached(1, 0));
        Check.due("the empty text", 0, () -> x.read());
        Check.nothingRead("behind the empty text", x);
    }

    private static void refused() {
        Doc.sentence(READ, "IllegalArgumentException, when it has a fault (nothing is read then).");
        String[] faulty = {RICH + "$", RICH + ";", RICH + "state a;", RICH + "first b;", RICH + "first c;",
            RICH + "never a b;", RICH + "ask c,d,e,f,g,h,i,j;", RICH + "first a", "state", "$"};
        for (String text : faulty) {
            ProtocolText x = Check.reading(RICH);
            Check.feedText(x, text);
            Check.due("read() of " + text, Check.ARGUMENT, () -> x.read());
            Check.nothingRead("behind " + text, x);
            Check.due("the text is empty", 0, () -> x.count(0));
            Check.feedText(x, RICH);
            Check.due("and the next one is read", 2, () -> x.read());
        }
    }

    private static void latestFault() {
        Doc.sentence(FAULT, "The fault of the latest read() (what 0; 0 none), its place (1).");
        ProtocolText x = new ProtocolText();
        Check.due("before any read()", 0, () -> x.fault(0));
        Check.feedText(x, "state a;$");
        Check.due("feeding reads nothing", 0, () -> x.fault(0));
        Check.answer(() -> x.read());
        Check.due("the fault", 1, () -> x.fault(0));
        Check.due("its place", 8, () -> x.fault(1));
        Check.feedText(x, "first a;");
        Check.due("it stays until the next read()", 1, () -> x.fault(0));
        Check.due("its place too", 8, () -> x.fault(1));
        Check.answer(() -> x.read());
        Check.due("the next fault", 5, () -> x.fault(0));
        Check.due("the next place", 6, () -> x.fault(1));
        Check.feedText(x, "state a;");
        x.read();
        Check.due("none", 0, () -> x.fault(0));
        Check.faulty(7, Texts.ABM + "never a b; never a |b;");
        Check.faulty(1, "|$");
    }

    private static void noSuchWhat() {
        Doc.sentence(FAULT, "IndexOutOfBoundsException, for another what.");
        ProtocolText x = new ProtocolText();
        ProtocolText y = new ProtocolText();
        Check.feedText(y, "$");
        Check.answer(() -> y.read());
        for (int what : new int[] {-1, 2, -2, 3, 256, 257, 65536, Integer.MIN_VALUE, Integer.MAX_VALUE}) {
            Check.due("new: fault(" + what + ")", Check.INDEX, () -> x.fault(what));
            Check.due("behind a fault: fault(" + what + ")", Check.INDEX, () -> y.fault(what));
        }
        Check.due("fault(0)", 1, () -> y.fault(0));
        Check.due("fault(1)", 0, () -> y.fault(1));
    }
}
