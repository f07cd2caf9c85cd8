/** Promises 1 to 3 and 14: a new object, and how a text comes together. */
public final class FeedTest {
    public static void main(String[] args) {
        newObject();
        feeding();
        fullText();
        ending();
        bytesInOrder();
        againAsText();
        Check.finish();
    }

    private static void newObject() {
        ProtocolText x = new ProtocolText();
        Check.due("new: count(0)", 0, () -> x.count(0));
        Check.due("new: count(9)", 0, () -> x.count(9));
        Check.due("new: fault(0)", 0, () -> x.fault(0));
        Check.due("new: fault(1)", 0, () -> x.fault(1));
        Check.due("new: out(0)", Check.INDEX, () -> x.out(0));
        Check.due("new: again()", 0, () -> x.again());
        Check.nothingRead("new", x);
        Check.due("new: read() of the empty text", 0, () -> new ProtocolText().read());
    }

    private static void feeding() {
        ProtocolText x = new ProtocolText();
        Check.due("feed", 16, () -> x.feed(-1, 0, Integer.MIN_VALUE, Integer.MAX_VALUE));
        Check.due("feed", 32, () -> x.feed(0, 0, 0, 0));
        Check.due("count(0)", 32, () -> x.count(0));
    }

    private static void fullText() {
        ProtocolText x = new ProtocolText();
        for (int i = 0; i < 256; i++) {
            int due = 16 * i + 16;
            Check.due("feed up to " + due, due, () -> x.feed(0x20202020, 0x20202020, 0x20202020, 0x20202020));
        }
        Check.due("feed behind 4096", Check.STATE, () -> x.feed(0, 0, 0, 0));
        Check.due("count(0) when full", 4096, () -> x.count(0));
        Check.due("end(15)", 4095, () -> x.end(15));
        Check.due("feed behind 4095", Check.STATE, () -> x.feed(0, 0, 0, 0));
        Check.due("end(1)", 4080, () -> x.end(1));
        Check.due("feed behind 4080", 4096, () -> x.feed(0x20202020, 0x20202020, 0x20202020, 0x2020203b));
        Check.due("read()", Check.ARGUMENT, () -> x.read());
        Check.due("the fault in the last byte", 2, () -> x.fault(0));
        Check.due("its place", 4095, () -> x.fault(1));
        Check.due("feed behind read()", 16, () -> x.feed(0, 0, 0, 0));
    }

    private static void ending() {
        ProtocolText x = new ProtocolText();
        Check.due("end(-1) of nothing", Check.ARGUMENT, () -> x.end(-1));
        Check.due("end(17) of nothing", Check.ARGUMENT, () -> x.end(17));
        Check.due("end(0) of nothing", Check.STATE, () -> x.end(0));
        Check.due("end(16) of nothing", Check.STATE, () -> x.end(16));
        x.feed(0x73746174, 0x6520613b, 0x24242424, 0x24242424);
        Check.due("end(-1)", Check.ARGUMENT, () -> x.end(-1));
        Check.due("end(17)", Check.ARGUMENT, () -> x.end(17));
        Check.due("end(least)", Check.ARGUMENT, () -> x.end(Integer.MIN_VALUE));
        Check.due("end(most)", Check.ARGUMENT, () -> x.end(Integer.MAX_VALUE));
        Check.due("end(16)", 16, () -> x.end(16));
        Check.due("end(8)", 8, () -> x.end(8));
        Check.due("end(8) of eight", Check.STATE, () -> x.end(8));
        Check.due("end(17) of eight", Check.ARGUMENT, () -> x.end(17));
        Check.due("feed behind eight", 24, () -> x.feed(0x61736b20, 0x623b2424, 0, 0));
        Check.due("end(6)", 14, () -> x.end(6));
        Check.due("read()", 0, () -> x.read());
        Check.same("what counts", "state a;\nask b;\nfirst a;\n", Check.printed(x));
        x.feed(0, 0, 0, 0);
        Check.due("end(0)", 0, () -> x.end(0));
        Check.due("feed, feed", 32, () -> x.feed(0, 0, 0, 0) + x.feed(0, 0, 0, 0) - 16);
        Check.due("end(0)", 16, () -> x.end(0));
        Check.due("end(0) again", 0, () -> x.end(0));
    }

    private static void bytesInOrder() {
        ProtocolText x = new ProtocolText();
        Check.due("feed", 16, () -> x.feed(0x73746174, 0x65206162, 0x63646566, 0x6768693b));
        x.read();
        Check.same("the highest byte of a first", "state abcdefghi;\nfirst abcdefghi;\n", Check.printed(x));
    }

    private static void againAsText() {
        ProtocolText x = Check.reading("state a; ask b; on a b:>a;");
        x.print();
        int printed = x.count(9);
        Check.feedText(x, "state other; this is gone");
        Check.due("again()", printed, () -> x.again());
        Check.due("count(0)", printed, () -> x.count(0));
        Check.due("count(9)", printed, () -> x.count(9));
        Check.due("feed behind it", printed + 16, () -> x.feed(0x6e657665, 0x72206120, 0x623b2020, 0x20202020));
        Check.due("read()", Check.ARGUMENT, () -> x.read());
        Check.due("fault(0)", 7, () -> x.fault(0));
        Check.due("fault(1)", printed + 8, () -> x.fault(1));
        Check.due("again() once more", printed, () -> x.again());
        Check.due("read()", 1, () -> x.read());
        x.draw();
        Check.due("again() of a drawing", 8, () -> x.again());
        Check.due("read() of a drawing", Check.ARGUMENT, () -> x.read());
        Check.due("its fault", 2, () -> x.fault(0));
        Check.due("its place", 2, () -> x.fault(1));
    }
}
