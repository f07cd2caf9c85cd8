/** Promises 1 to 3. */
final class FeedSentences {
    private static final String NEW = "Promise 1: A new object";
    private static final String FEED = "Promise 2: feed";
    private static final String END = "Promise 3: end";
    private static final int BLANKS = 0x20202020;

    private FeedSentences() {
    }

    static void run() {
        Doc.each(
            FeedSentences::newObject, FeedSentences::sixteenBytes, FeedSentences::tooLong,
            FeedSentences::lastSixteen, FeedSentences::noSuchNumber, FeedSentences::lessThanSixteen);
    }

    private static void newObject() {
        Doc.sentence(NEW, "An empty text, nothing read.");
        ProtocolText x = new ProtocolText();
        Check.due("count(0)", 0, () -> x.count(0));
        Check.due("count(9)", 0, () -> x.count(9));
        Check.due("fault(0)", 0, () -> x.fault(0));
        Check.due("out(0)", Check.INDEX, () -> x.out(0));
        Check.due("end(16)", Check.STATE, () -> x.end(16));
        Check.nothingRead("new", x);
        Check.due("read() of the empty text", 0, () -> new ProtocolText().read());
        Check.reading("state other;");
        Check.due("nothing of another object", 0, () -> new ProtocolText().count(1));
    }

    private static void sixteenBytes() {
        Doc.sentence(FEED, "Sixteen bytes come behind the text, the highest of a first: how many it has.");
        ProtocolText x = new ProtocolText();
        Check.due("feed", 16, () -> x.feed(0x73746174, 0x65206162, 0x63642c65, 0x6667683b));
        Check.due("feed", 32, () -> x.feed(0x61736b20, 0x6b6c3b23, -1, Integer.MIN_VALUE));
        x.read();
        Check.same("their order", "state abcd, efgh;\nask kl;\nfirst abcd;\n", Check.printed(x));
        for (int place = 0; place < 16; place++) {
            int[] four = {BLANKS, BLANKS, BLANKS, BLANKS};
            four[place / 4] ^= 0xdf << (24 - place % 4 * 8);
            ProtocolText y = new ProtocolText();
            y.feed(four[0], four[1], four[2], four[3]);
            Check.due("read() with a byte of 255", Check.ARGUMENT, () -> y.read());
            Check.due("its place", place, () -> y.fault(1));
            Check.due("it begins no lexeme", 1, () -> y.fault(0));
        }
    }

    private static void tooLong() {
        Doc.sentence(FEED, "IllegalStateException, when there would be more than 4096.");
        ProtocolText x = new ProtocolText();
        Check.feedText(x, Texts.spaced("state a;", 4080, "ask b;"));
        Check.due("from 4080 to 4096", 4096, () -> x.feed(BLANKS, BLANKS, BLANKS, BLANKS));
        Check.due("at 4096", Check.STATE, () -> x.feed(-1, -1, -1, -1));
        Check.due("nothing has come", 4096, () -> x.count(0));
        for (int left = 15; left >= 1; left--) {
            int bytes = 4080 + left;
            ProtocolText y = new ProtocolText();
            Check.feedText(y, Texts.spaced("state a;", bytes, "ask b;"));
            Check.due("at " + bytes, Check.STATE, () -> y.feed(-1, -1, -1, -1));
            Check.due("nothing has come", bytes, () -> y.count(0));
            Check.due("not a byte", 0, () -> y.read());
            Check.due("and it can be fed again", 16, () -> y.feed(-1, -1, -1, -1));
        }
        Check.due("what is there is read", 0, () -> x.read());
        Check.same("and nothing more", "state a;\nask b;\nfirst a;\n", Check.printed(x));
    }

    private static void lastSixteen() {
        Doc.sentence(END, "Of the last sixteen bytes n (0 .. 16) count, the others are gone: how many there are.");
        for (int n = 0; n <= 16; n++) {
            int counting = n;
            ProtocolText x = new ProtocolText();
            Check.feedText(x, Texts.spaced("state a", 32, ""));
            Check.due("end(" + n + ") of 32", 16 + n, () -> x.end(counting));
            Check.due("count(0)", 16 + n, () -> x.count(0));
            Check.due("read()", Check.ARGUMENT, () -> x.read());
            Check.due("where the text ends", 16 + n, () -> x.fault(1));
            ProtocolText y = new ProtocolText();
            Check.feedText(y, "state abcdefgh;$");
            Check.due("end(" + n + ") of sixteen", n, () -> y.end(counting));
            Check.due("what is fed then comes behind", n + 16, () -> y.feed(-1, -1, -1, -1));
            Check.due("and goes", n, () -> y.end(0));
            Check.due("the first n are those that count", n == 0 || n == 15 ? "0" : Check.ARGUMENT, () -> y.read());
        }
        ProtocolText gone = new ProtocolText();
        Check.feedText(gone, "state a; $$$$$$$");
        gone.end(8);
        Check.feedText(gone, "ask b;$$$$$$$$$$");
        Check.due("end(6) behind eight", 14, () -> gone.end(6));
        Check.due("the bytes gone are not read", 0, () -> gone.read());
        Check.same("what counts", "state a;\nask b;\nfirst a;\n", Check.printed(gone));
        ProtocolText twice = new ProtocolText();
        Check.feedText(twice, "state a;        $$$$$$$$        ");
        Check.due("end(0)", 16, () -> twice.end(0));
        Check.due("end(8), of the sixteen before", 8, () -> twice.end(8));
        Check.due("read()", 0, () -> twice.read());
        Check.due("its state", 1, () -> twice.count(1));
    }

    private static void noSuchNumber() {
        Doc.sentence(END, "IllegalArgumentException, when n is none of these;");
        ProtocolText x = new ProtocolText();
        Check.feedText(x, "state a; ask b;#");
        for (int n : new int[] {-1, 17, -16, 32, 256, 264, 65536, Integer.MIN_VALUE, Integer.MAX_VALUE}) {
            Check.due("end(" + n + ")", Check.ARGUMENT, () -> x.end(n));
            Check.due("nothing is gone", 16, () -> x.count(0));
        }
        Check.due("end(16)", 16, () -> x.end(16));
        Check.due("end(0)", 0, () -> x.end(0));
    }

    private static void lessThanSixteen() {
        Doc.sentence(END, "IllegalStateException, when there are less than sixteen.");
        for (int bytes = 0; bytes <= 15; bytes++) {
            int left = bytes;
            ProtocolText x = new ProtocolText();
            x.feed(BLANKS, BLANKS, BLANKS, BLANKS);
            x.end(bytes);
            for (int n : new int[] {0, 1, bytes, 15, 16}) {
                Check.due("end(" + n + ") of " + bytes, Check.STATE, () -> x.end(n));
                Check.due("nothing is gone", left, () -> x.count(0));
            }
        }
        ProtocolText sixteen = new ProtocolText();
        sixteen.feed(BLANKS, BLANKS, BLANKS, BLANKS);
        Check.due("end(0) of sixteen", 0, () -> sixteen.end(0));
        ProtocolText read = new ProtocolText();
        read.feed(BLANKS, BLANKS, BLANKS, BLANKS);
        read.read();
        Check.due("end(16) behind read()", Check.STATE, () -> read.end(16));
    }
}
