/** Promises 11 to 14: printing, drawing, the bytes, and reading them again. */
public final class PageTest {
    public static void main(String[] args) {
        printing();
        drawing();
        bytesOut();
        longestPrinting();
        longestDrawing();
        justShortEnough();
        Check.finish();
    }

    private static void printing() {
        print("", "");
        print("ask a;", "ask a;\n");
        print("message a, b;", "message a, b;\n");
        print("state a;", "state a;\nfirst a;\n");
        print("message y; state m; ask load; state e; first e; message z;",
            "state m, e;\nask load;\nmessage y, z;\nfirst e;\n");
        print("state m,e;ask load;message gets;never e gets;on m gets:take>m;on e load:>m;on m load:send gets,keep>e;",
            "state m, e;\nask load;\nmessage gets;\nfirst m;\n"
            + "on m load: send gets, keep > e;\non m gets: take > m;\non e load: > m;\nnever e gets;\n");
        print("state a; ask b; message c; on a b: send c, take, keep, send c > a; never a c;",
            "state a;\nask b;\nmessage c;\nfirst a;\non a b: send c, take, keep, send c > a;\nnever a c;\n");
    }

    private static void print(String text, String due) {
        ProtocolText x = Check.reading(text);
        Check.same("printed " + text, due, Check.printed(x));
        Check.due("again() of " + text, due.length(), () -> x.again());
        x.read();
        Check.same("printed again " + text, due, Check.printed(x));
    }

    private static void drawing() {
        draw("", "\n");
        draw("state a;", "\na\n");
        draw("state abc, d;", "\nabc\nd\n");
        draw("ask load, st;", " load st\n");
        draw("message m;", " m\n");
        draw("state a; ask b;", "  b\na ?\n");
        draw("state m, e; ask ld; message gets; on m gets: > e; never e ld; on e gets: > m;",
            "  ld gets\nm ?  e\ne -  m\n");
        draw("state i, shared, m; ask x, y; message zz; on i x: > m; on m x: > shared; on i zz: > shared; never m zz;",
            "       x      y zz\ni      m      ? shared\nshared ?      ? ?\nm      shared ? -\n");
        draw("state abcdefghijkl, b; ask x; on b x: > abcdefghijkl;",
            "             x\nabcdefghijkl ?\nb            abcdefghijkl\n");
        draw("message zz; state a; ask y; never a zz;", "  y zz\na ? -\n");
    }

    private static void draw(String text, String due) {
        Check.same("drawn " + text, due, Check.drawn(Check.reading(text)));
    }

    private static void bytesOut() {
        ProtocolText x = Check.reading("state a; ask b;");
        x.print();
        String printed = "state a;\nask b;\nfirst a;\n";
        for (int i = 0; i < printed.length(); i++) {
            int asked = i;
            Check.due("out(" + i + ")", printed.charAt(i), () -> x.out(asked));
        }
        for (int wrong : new int[] {printed.length(), -1, Integer.MIN_VALUE, Integer.MAX_VALUE}) {
            Check.due("out(" + wrong + ")", Check.INDEX, () -> x.out(wrong));
        }
        x.draw();
        Check.due("the drawing is what counts", ' ', () -> x.out(0));
        Check.due("and nothing behind it", Check.INDEX, () -> x.out(8));
        x.read();
        Check.due("reading leaves it", 8, () -> x.count(9));
        Check.due("reading leaves its bytes", 'b', () -> x.out(2));
    }

    private static void longestPrinting() {
        ProtocolText x = Check.reading(Texts.dense());
        Check.same("nearly all pairs have a rule", "true", "" + (x.count(4) > 350));
        String printed = Check.printed(x);
        Check.same("it prints longer than a text", "true", "" + (printed.length() > 4096));
        Check.same("whole", "\n", printed.substring(printed.length() - 1));
        Check.same("a line for each", "" + (x.count(4) + 4), "" + printed.split("\n").length);
        x.feed(0, 0, 0, 0);
        Check.due("again()", Check.STATE, () -> x.again());
        Check.due("the text is still there", 16, () -> x.count(0));
        Check.due("and the page", printed.length(), () -> x.count(9));
    }

    private static void longestDrawing() {
        ProtocolText empty = Check.reading(Texts.longestNames());
        Check.due("all missing", 17 * 313 - 11 * 16, () -> empty.draw() - 17 * 12);
        ProtocolText x = Check.reading(Texts.longestDrawing());
        Check.due("as long as can be", 17 * 325, () -> x.draw());
        Check.due("its last byte", '\n', () -> x.out(17 * 325 - 1));
        Check.due("the byte before", 'x', () -> x.out(17 * 325 - 2));
        Check.due("again()", Check.STATE, () -> x.again());
    }

    private static void justShortEnough() {
        ProtocolText x = Check.reading(Texts.compact(Texts.printing(4096)));
        Check.due("print() of 4096", 4096, () -> x.print());
        Check.due("again() of 4096", 4096, () -> x.again());
        Check.due("read() of 4096", x.count(4), () -> x.read());
        Check.same("printed as it was", Texts.printing(4096), Check.printed(x));
        ProtocolText y = Check.reading(Texts.compact(Texts.printing(4097)));
        Check.due("print() of 4097", 4097, () -> y.print());
        Check.due("again() of 4097", Check.STATE, () -> y.again());
    }
}
