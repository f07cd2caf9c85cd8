/** The terms' sentences on what is printed and drawn. */
final class PageSentences {
    private PageSentences() {
    }

    static void run() {
        Doc.each(
            PageSentences::names, PageSentences::first, PageSentences::rules, PageSentences::withoutActions,
            PageSentences::nevers, PageSentences::lines, PageSentences::firstColumn, PageSentences::columns,
            PageSentences::firstLine, PageSentences::otherLines, PageSentences::filled, PageSentences::leftOut);
    }

    private static void print(String text, String due) {
        Check.same("printed " + text, due, Check.printed(Check.reading(text)));
    }

    private static void draw(String text, String due) {
        Check.same("drawn " + text, due, Check.drawn(Check.reading(text)));
    }

    private static void names() {
        Doc.sentence(Doc.TERMS, "PRINTED: lines, each with 10 behind it: \"state m, e, s;\", \"ask ..;\", "
            + "\"message ..;\" (each only if there are some),");
        print("", "");
        print("ask a;", "ask a;\n");
        print("message a;", "message a;\n");
        print("message a; ask b;", "ask b;\nmessage a;\n");
        print("message a;ask b;state m;message c;state e;ask d;state s;",
            "state m, e, s;\nask b, d;\nmessage a, c;\nfirst m;\n");
        print(Texts.ALL_NAMES, "state a, b, c, d, e, f, g, h, i, j, k, l, m, n, o, p;\nask q, r, s, t, u, v, w, x;\n"
            + "message y, z, aa, ab, ac, ad, ae, af, ag, ah, ai, aj, ak, al, am, an;\nfirst a;\n");
    }

    private static void first() {
        Doc.sentence(Doc.TERMS, "\"first m;\" (if there is a state),");
        print("ask a; message b;", "ask a;\nmessage b;\n");
        print("state m;", "state m;\nfirst m;\n");
        print("state m, e; first e; first m;", "state m, e;\nfirst m;\n");
        print("state m, e; first m; first e;", "state m, e;\nfirst e;\n");
    }

    private static void rules() {
        Doc.sentence(Doc.TERMS, "then state by state, event by event: \"on m load: send gets, keep > e;\"");
        print("message gets;state m,e;on e gets:take>m;on m gets:keep,take>m;ask load;on e load:send gets>e;"
            + "on m load:send gets,keep>e;", "state m, e;\nask load;\nmessage gets;\nfirst m;\n"
            + "on m load: send gets, keep > e;\non m gets: keep, take > m;\non e load: send gets > e;\n"
            + "on e gets: take > m;\n");
        print("state m;ask a;message b;on m a:send b,take,keep,send b>m;", "state m;\nask a;\nmessage b;\nfirst m;\n"
            + "on m a: send b, take, keep, send b > m;\n");
        print(Texts.ALL_NAMES + "on p an:send an,send y>p;on a q:take>a;",
            Check.printed(Check.reading(Texts.ALL_NAMES)) + "on a q: take > a;\non p an: send an, send y > p;\n");
    }

    private static void withoutActions() {
        Doc.sentence(Doc.TERMS, "(\"on m load: > e;\" without actions),");
        print("state m,e;ask load;on m load:>e;", "state m, e;\nask load;\nfirst m;\non m load: > e;\n");
    }

    private static void nevers() {
        Doc.sentence(Doc.TERMS, "\"never m load;\".");
        print("state m,e;ask load,x;never e load;on m x:>m;never m load;",
            "state m, e;\nask load, x;\nfirst m;\nnever m load;\non m x: > m;\nnever e load;\n");
    }

    private static void lines() {
        Doc.sentence(Doc.TERMS, "DRAWN: as many lines as states and one more, each with 10 behind it.");
        draw("", "\n");
        draw("state a;", "\na\n");
        draw("ask a;", " a\n");
        draw("state " + Texts.SIXTEEN + ";", "\n" + Texts.SIXTEEN.replace(",", "\n") + "\n");
    }

    private static void firstColumn() {
        Doc.sentence(Doc.TERMS, "The first column is as wide as the longest state's name,");
        draw("ask q; message r;", " q r\n");
        draw("state a; ask q;", "  q\na ?\n");
        draw("state abc, a, ab; ask q;", "    q\nabc ?\na   ?\nab  ?\n");
        draw("state a, abcdefghijkl; ask q;", "             q\na            ?\nabcdefghijkl ?\n");
        draw("state a; ask longevent, q;", "  longevent q\na ?         ?\n");
        draw("state " + Texts.SIXTEEN + "; ask longevent;",
            "  longevent\n" + Texts.SIXTEEN.replace(",", " ?\n") + " ?\n");
        ProtocolText narrower = Check.reading("state wide; ask q;");
        narrower.draw();
        Check.feedText(narrower, "state a; ask q;");
        narrower.read();
        Check.same("not as wide as what was drawn before", "  q\na ?\n", Check.drawn(narrower));
    }

    private static void columns() {
        Doc.sentence(Doc.TERMS, "each event's column as its name, the longest state that its rules lead to, or 1, "
            + "whichever is longest.");
        draw("state a, abc; ask q, r; on a q: > a; on abc q: > a;", "    q r\na   a ?\nabc a ?\n");
        draw("state a, abc; ask q, r; on a q: > abc; on abc q: > a;", "    q   r\na   abc ?\nabc a   ?\n");
        draw("state a, abc; ask q, r; on a q: > a; on abc q: > abc;", "    q   r\na   a   ?\nabc abc ?\n");
        draw("state a, abc; ask four, r; on a four: > abc;", "    four r\na   abc  ?\nabc ?    ?\n");
        draw("state a, abc; ask two, r; on a two: > abc;", "    two r\na   abc ?\nabc ?   ?\n");
        draw("state a, abc; ask r; message m, n; on a m: > abc; never abc n;", "    r m   n\na   ? abc ?\nabc ? ?   -\n");
        draw("state a, abc; ask q, r; never abc q;", "    q r\na   ? ?\nabc - ?\n");
        draw("state abc, a; ask q, r; on a q: > abc;", "    q   r\nabc ?   ?\na   abc ?\n");
        ProtocolText narrower = Check.reading("state a; ask wide, r;");
        narrower.draw();
        Check.feedText(narrower, "state a; ask q, r;");
        narrower.read();
        Check.same("not as wide as what was drawn before", "  q r\na ? ?\n", Check.drawn(narrower));
    }

    private static void firstLine() {
        Doc.sentence(Doc.TERMS,
            "The first line has blanks in the first column, then, behind a blank each, the events;");
        draw("ask a, b; message c;", " a b c\n");
        draw("message c; state s1; ask a, b; message d;", "   a b c d\ns1 ? ? ? ?\n");
        draw("state abc;", "\nabc\n");
    }

    private static void otherLines() {
        Doc.sentence(Doc.TERMS, "the others the state, then, behind a blank each, the state that the rule leads to, "
            + "- for never, ? for missing.");
        draw("state a, c; ask q; message m, n; on a q: send m > c; never a m; never c n; on c m: take > c;",
            "  q m n\na c - ?\nc ? c -\n");
        draw("state a, b, c; ask q; on b q: > a; never c q;", "  q\na ?\nb a\nc -\n");
    }

    private static void filled() {
        Doc.sentence(Doc.TERMS, "All but the last column of a line is filled up with blanks behind;");
        draw("state a, abc; ask long, q; on a q: > abc; never abc q; never a long;",
            "    long q\na   -    abc\nabc ?    -\n");
        draw("state a, abc, c; ask q, last; on a q: > abc; on c q: > c;",
            "    q   last\na   abc ?\nabc ?   ?\nc   c   ?\n");
    }

    private static void leftOut() {
        Doc.sentence(Doc.TERMS, "blanks at a line's end are left out.");
        draw("state a, abcdef;", "\na\nabcdef\n");
        draw("state a, abc; ask last; on a last: > a; never abc last;", "    last\na   a\nabc -\n");
        draw("state a, abc; ask q; on a q: > abc;", "    q\na   abc\nabc ?\n");
        ProtocolText x = Check.reading(Texts.longestNames());
        Check.due("with all names of 12: 11 blanks less in each line but the first", 17 * 325 - 16 * 11, () -> x.draw());
    }
}
