/** The terms' sentences on bytes and lexemes. */
final class LexemeSentences {
    private LexemeSentences() {
    }

    static void run() {
        Doc.each(
            LexemeSentences::textRoom, LexemeSentences::white, LexemeSentences::names, LexemeSentences::signs,
            LexemeSentences::words);
    }

    private static void textRoom() {
        Doc.sentence(Doc.TERMS, "THE TEXT has at most 4096 bytes.");
        ProtocolText full = new ProtocolText();
        Check.feedText(full, Texts.spaced("state a", 4096, ";"));
        Check.due("as many as there may be", 4096, () -> full.count(0));
        Check.due("one piece more", Check.STATE, () -> full.feed(0, 0, 0, 0));
        Check.due("and it is read up to its last byte", 0, () -> full.read());
        Check.due("its state", 1, () -> full.count(1));
        Check.faulty(2, Texts.spaced("state a", 4095, "") + "|");
        ProtocolText over = Check.reading(Texts.longestDrawing());
        over.draw();
        Check.due("nor does it get longer by again()", Check.STATE, () -> over.again());
    }

    private static void white() {
        Doc.sentence(Doc.TERMS, "WHITE: 9, 10, 13, 32, and from # to the end of the line (10).");
        for (int b = 0; b < 256; b++) {
            String between = "state" + (char) b + "a;";
            if (b == 9 || b == 10 || b == 13 || b == 32) {
                Check.same("byte " + b, "state a;\nfirst a;\n", Check.printed(Check.reading(between)));
            } else if (b < 'a' && (b < '0' || b > '9') || b > 'z') {
                refused("byte " + b, b == '#' || b == ':' || b == ';' || b == ',' || b == '>' ? 2 : 1, between);
            }
        }
        reads("up to the line's end", "state#a;\nb;", "state b;\nfirst b;\n");
        reads("13 ends no line", "state#\ra;\nb;", "state b;\nfirst b;\n");
        reads("# in it", "state#a#b;#\nb;", "state b;\nfirst b;\n");
        reads("nothing in it", "#\nstate#\nb#\n;#\n", "state b;\nfirst b;\n");
        reads("wrong bytes in it", "#$A1\u0000\u00ff\nstate b;", "state b;\nfirst b;\n");
        reads("# last of all", "state b;#", "state b;\nfirst b;\n");
        reads("no 10 behind", "state b; # , $", "state b;\nfirst b;\n");
        reads("white alone", "\t\n\r #", "");
    }

    private static void refused(String what, int fault, String text) {
        ProtocolText x = new ProtocolText();
        Check.feedText(x, text);
        Check.due(what + ": read()", Check.ARGUMENT, () -> x.read());
        Check.due(what + ": fault(0)", fault, () -> x.fault(0));
    }

    private static void reads(String what, String text, String printing) {
        Check.same(what, printing, Check.printed(Check.reading(text)));
    }

    private static void names() {
        Doc.sentence(Doc.TERMS,
            "LEXEMES: NAMES (a small letter, then small letters and digits, the longest that fit, up to 12),");
        for (int b = 33; b < 256; b++) {
            boolean letter = b >= 'a' && b <= 'z';
            boolean digit = b >= '0' && b <= '9';
            boolean other = b == '#' || b == ':' || b == ';' || b == ',' || b == '>';
            if (letter) {
                reads("a name of one letter", "state " + (char) b + ";", "state ?;\nfirst ?;\n".replace('?', (char) b));
            } else if (!other && b != '|') {
                Check.faulty(1, "state |" + (char) b + "a;");
            }
            if (letter || digit) {
                reads("in a name", "state q" + (char) b + "q;", "state q?q;\nfirst q?q;\n".replace('?', (char) b));
            } else if (!other && b != '|') {
                Check.faulty(1, "state q|" + (char) b + "q;");
            }
        }
        reads("12", "state abcdefghijkl, a12345678901;",
            "state abcdefghijkl, a12345678901;\nfirst abcdefghijkl;\n");
        Check.faulty(1, "state |abcdefghijklm;");
        Check.faulty(1, "state |a123456789012;");
        Check.faulty(2, "|statea;");
        Check.faulty(2, "|state1 a;");
        Check.faulty(5, "state a; ask b; on a |b1: > a;");
        Check.faulty(5, "state a, ab; ask b; first |abc;");
    }

    private static void signs() {
        Doc.sentence(Doc.TERMS, "SIGNS : ; , >.");
        reads("no white beside them", "state a,c;ask b;on a b:take,keep>c;",
            "state a, c;\nask b;\nfirst a;\non a b: take, keep > c;\n");
        reads("white beside them", "state a , c ; ask b ; on a b : take , keep > c ;",
            "state a, c;\nask b;\nfirst a;\non a b: take, keep > c;\n");
        for (String sign : new String[] {":", ";", ",", ">"}) {
            Check.faulty(2, "state a; |" + sign);
        }
        for (String none : new String[] {"<", "=", ".", "-", "?", "(", "{", "9"}) {
            Check.faulty(1, "state a; |" + none);
        }
    }

    private static void words() {
        Doc.sentence(Doc.TERMS, "WORDS are the names state ask message on never first send take keep.");
        for (String word : "state ask message on never first send take keep".split(" ")) {
            Check.faulty(2, "state |" + word + ";");
            String shorter = word.substring(0, word.length() - 1);
            String longer = word + "s";
            reads("beside " + word, "state " + shorter + ", " + longer + "; first " + longer + ";",
                "state " + shorter + ", " + longer + ";\nfirst " + longer + ";\n");
        }
    }
}
