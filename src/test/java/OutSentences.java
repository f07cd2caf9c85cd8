/** Promises 11 to 14. */
final class OutSentences {
    private static final String PRINT = "Promise 11: print";
    private static final String DRAW = "Promise 12: draw";
    private static final String OUT = "Promise 13: out";
    private static final String AGAIN = "Promise 14: again";
    private static final String PRINTED = "state a;\nask b;\nfirst a;\n";
    private static final String DRAWN = "  b\na ?\n";

    private OutSentences() {
    }

    static void run() {
        Doc.each(
            OutSentences::print, OutSentences::draw, OutSentences::out, OutSentences::outWrong, OutSentences::again,
            OutSentences::againTooLong);
    }

    private static void print() {
        Doc.sentence(PRINT, "Prints what was read: how many bytes.");
        Check.due("nothing read", 0, () -> new ProtocolText().print());
        ProtocolText x = Check.reading("state a; ask b;");
        Check.due("print()", PRINTED.length(), () -> x.print());
        Check.due("print() once more", PRINTED.length(), () -> x.print());
        Check.feedText(x, "state other;");
        Check.due("what was fed is not printed", PRINTED.length(), () -> x.print());
        Check.due("nor is it gone", 12, () -> x.count(0));
        Check.feedText(x, "$");
        Check.answer(() -> x.read());
        Check.due("behind a fault nothing", 0, () -> x.print());
        ProtocolText dense = Check.reading(Texts.dense());
        int rules = dense.count(4);
        String names = Check.printed(Check.reading(Texts.ALL_NAMES));
        int due = names.length() + Texts.dense().length() - Texts.ALL_NAMES.length() + 3 * rules;
        Check.due("three bytes more for each rule, longer than a text", due, () -> dense.print());
        Check.due("the first byte", 's', () -> dense.out(0));
        Check.due("the last but one", ';', () -> dense.out(due - 2));
        Check.due("the last byte", '\n', () -> dense.out(due - 1));
        Check.same("more than 4096", "true", "" + (due > 4096));
    }

    private static void draw() {
        Doc.sentence(DRAW, "Draws what was read: how many bytes.");
        Check.due("nothing read", 1, () -> new ProtocolText().draw());
        ProtocolText x = Check.reading("state a; ask b;");
        Check.due("draw()", DRAWN.length(), () -> x.draw());
        Check.due("draw() once more", DRAWN.length(), () -> x.draw());
        Check.feedText(x, "state other;");
        Check.due("what was fed is not drawn", DRAWN.length(), () -> x.draw());
        Check.due("nor is it gone", 12, () -> x.count(0));
        Check.feedText(x, "$");
        Check.answer(() -> x.read());
        Check.due("behind a fault one line", 1, () -> x.draw());
        ProtocolText most = Check.reading(Texts.longestDrawing());
        Check.due("as long as can be", 17 * 325, () -> most.draw());
        Check.due("the last but one", 'x', () -> most.out(17 * 325 - 2));
        Check.due("the last byte", '\n', () -> most.out(17 * 325 - 1));
    }

    private static void out() {
        Doc.sentence(OUT, "Byte i of what was printed or drawn last.");
        ProtocolText x = Check.reading("state a; ask b;");
        x.print();
        Check.same("printed", PRINTED, Check.page(x));
        x.draw();
        Check.same("drawn last", DRAWN, Check.page(x));
        x.print();
        Check.same("printed last", PRINTED, Check.page(x));
        Check.feedText(x, "state c;");
        x.read();
        Check.same("reading leaves it", PRINTED, Check.page(x));
        x.again();
        Check.same("and so does again()", PRINTED, Check.page(x));
    }

    private static void outWrong() {
        Doc.sentence(OUT, "IndexOutOfBoundsException, when there is none.");
        ProtocolText x = Check.reading("state a; ask b;");
        Check.due("nothing printed yet", Check.INDEX, () -> x.out(0));
        x.print();
        int bytes = PRINTED.length();
        Check.due("the last byte", '\n', () -> x.out(bytes - 1));
        for (int far : new int[] {bytes, bytes + 1, -1, 256, 5525, 5632, 65536, Integer.MIN_VALUE, Integer.MAX_VALUE}) {
            Check.due("out(" + far + ")", Check.INDEX, () -> x.out(far));
        }
        x.draw();
        Check.due("the last byte of a shorter one", '\n', () -> x.out(DRAWN.length() - 1));
        Check.due("behind it, where the longer one was", Check.INDEX, () -> x.out(DRAWN.length()));
        ProtocolText empty = new ProtocolText();
        empty.print();
        Check.due("nothing in what was printed", Check.INDEX, () -> empty.out(0));
        ProtocolText most = Check.reading(Texts.longestDrawing());
        most.draw();
        Check.due("behind the longest one", Check.INDEX, () -> most.out(17 * 325));
    }

    private static void again() {
        Doc.sentence(AGAIN, "What was printed or drawn last comes as the text (what is there is gone): how many bytes.");
        ProtocolText x = Check.reading("state a; ask b;");
        x.draw();
        x.print();
        Check.feedText(x, "state other; ask more; this text is longer than what was printed");
        Check.due("again()", PRINTED.length(), () -> x.again());
        Check.due("the text's length", PRINTED.length(), () -> x.count(0));
        Check.due("what is fed comes behind it", PRINTED.length() + 16,
            () -> x.feed(0x73746174, 0x6520633b, 0x20202020, 0x20202020));
        Check.due("read()", 0, () -> x.read());
        Check.same("both were read", "state a, c;\nask b;\nfirst a;\n", Check.printed(x));
        x.draw();
        Check.due("again() of a drawing", "  b\na ?\nc ?\n".length(), () -> x.again());
        Check.due("read() of a drawing", Check.ARGUMENT, () -> x.read());
        Check.due("its place", 2, () -> x.fault(1));
        ProtocolText nothing = new ProtocolText();
        nothing.feed(-1, -1, -1, -1);
        Check.due("nothing printed", 0, () -> nothing.again());
        Check.due("what was there is gone", 0, () -> nothing.count(0));
    }

    private static void againTooLong() {
        Doc.sentence(AGAIN, "IllegalStateException, when it is longer than 4096.");
        ProtocolText fits = Check.reading(Texts.compact(Texts.printing(4096)));
        Check.due("print()", 4096, () -> fits.print());
        Check.due("again() of 4096", 4096, () -> fits.again());
        Check.due("and it is full", Check.STATE, () -> fits.feed(0, 0, 0, 0));
        int rules = fits.count(4);
        Check.due("it is read whole", rules, () -> fits.read());
        ProtocolText over = Check.reading(Texts.compact(Texts.printing(4097)));
        Check.due("print()", 4097, () -> over.print());
        stays("printed 4097", over, 4097);
        ProtocolText drawn = Check.reading(Texts.drawing4096(false));
        Check.due("draw()", 4096, () -> drawn.draw());
        Check.due("again() of a drawing of 4096", 4096, () -> drawn.again());
        ProtocolText wider = Check.reading(Texts.drawing4096(true));
        Check.due("draw()", 4097, () -> wider.draw());
        stays("drawn 4097", wider, 4097);
        ProtocolText most = Check.reading(Texts.longestDrawing());
        most.draw();
        stays("the longest", most, 17 * 325);
    }

    private static void stays(String what, ProtocolText x, int bytes) {
        Check.feedText(x, "state z; ask y;#");
        Check.due(what + ": again()", Check.STATE, () -> x.again());
        Check.due(what + ": the text is still there", 16, () -> x.count(0));
        Check.due(what + ": and what was printed or drawn", bytes, () -> x.count(9));
        Check.due(what + ": the text is read", 0, () -> x.read());
        Check.same(what + ": as it was", "state z;\nask y;\nfirst z;\n", Check.printed(x));
    }
}
