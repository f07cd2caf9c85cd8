import java.nio.charset.StandardCharsets;
import java.util.Arrays;
import java.util.function.IntSupplier;

/** What the project's tests share: feeding whole texts, and comparing answers with those that are due. */
final class Check {
    static final String STATE = "throws IllegalStateException";
    static final String ARGUMENT = "throws IllegalArgumentException";
    static final String INDEX = "throws IndexOutOfBoundsException";

    private static int wrong = 0;
    private static int made = 0;
    private static String about = "";

    private Check() {
    }

    /** An exception counts by its exact class: one that the machine throws is a class below the document's. */
    static String answer(IntSupplier call) {
        try {
            return Integer.toString(call.getAsInt());
        } catch (RuntimeException e) {
            return "throws " + e.getClass().getSimpleName();
        }
    }

    static void due(String what, String want, IntSupplier call) {
        same(what, want, answer(call));
    }

    static void due(String what, int want, IntSupplier call) {
        same(what, Integer.toString(want), answer(call));
    }

    static void same(String what, String want, String got) {
        made++;
        if (!want.equals(got)) {
            wrong++;
            if (wrong <= 50) {
                System.out.println(about + what + ": answered [" + got + "], due is [" + want + "]");
            }
        }
    }

    /** Wrong answers are told with this before them. */
    static void about(String whose) {
        about = whose;
    }

    static int made() {
        return made;
    }

    static void finish() {
        System.out.println(made + " answers looked at, " + wrong + " wrong");
        if (wrong != 0) {
            System.exit(1);
        }
    }

    static void feedBytes(ProtocolText x, byte[] bytes) {
        for (int from = 0; from < bytes.length; from += 16) {
            byte[] part = Arrays.copyOfRange(bytes, from, from + 16);
            x.feed(four(part, 0), four(part, 4), four(part, 8), four(part, 12));
        }
        if (bytes.length % 16 != 0) {
            x.end(bytes.length % 16);
        }
    }

    private static int four(byte[] part, int from) {
        return (part[from] & 255) << 24 | (part[from + 1] & 255) << 16 | (part[from + 2] & 255) << 8 | part[from + 3] & 255;
    }

    static void feedText(ProtocolText x, String text) {
        feedBytes(x, text.getBytes(StandardCharsets.ISO_8859_1));
    }

    static ProtocolText reading(String text) {
        ProtocolText x = new ProtocolText();
        feedText(x, text);
        x.read();
        return x;
    }

    static String page(ProtocolText x) {
        StringBuilder page = new StringBuilder();
        int bytes = x.count(9);
        for (int i = 0; i < bytes; i++) {
            page.append((char) x.out(i));
        }
        return page.toString();
    }

    static String printed(ProtocolText x) {
        int bytes = x.print();
        String page = page(x);
        same("print() against the bytes out", Integer.toString(page.length()), Integer.toString(bytes));
        return page;
    }

    static String drawn(ProtocolText x) {
        int bytes = x.draw();
        String page = page(x);
        same("draw() against the bytes out", Integer.toString(page.length()), Integer.toString(bytes));
        return page;
    }

    /** A bar stands before the lexeme that has the fault. */
    static void faulty(int fault, String marked) {
        ProtocolText x = reading("state before; ask some;");
        feedText(x, marked.replace("|", ""));
        due("read() of " + marked, ARGUMENT, () -> x.read());
        due("fault(0) of " + marked, fault, () -> x.fault(0));
        due("fault(1) of " + marked, marked.indexOf('|'), () -> x.fault(1));
        due("count(0) behind " + marked, 0, () -> x.count(0));
        nothingRead("behind " + marked, x);
    }

    static void sound(int rules, String text) {
        ProtocolText x = new ProtocolText();
        feedText(x, text);
        due("read() of " + text, rules, () -> x.read());
        due("fault(0) of " + text, 0, () -> x.fault(0));
        due("fault(1) of " + text, 0, () -> x.fault(1));
        due("count(0) behind " + text, 0, () -> x.count(0));
    }

    /** Every count of a table of which nothing was read. */
    static void nothingRead(String when, ProtocolText x) {
        for (int what = 1; what <= 7; what++) {
            int asked = what;
            due(when + ": count(" + what + ")", 0, () -> x.count(asked));
        }
        due(when + ": count(8)", -1, () -> x.count(8));
        due(when + ": next(0, 0)", INDEX, () -> x.next(0, 0));
        due(when + ": action(0, 0, 0)", INDEX, () -> x.action(0, 0, 0));
        due(when + ": missing(0)", INDEX, () -> x.missing(0));
        due(when + ": reached(0, 0)", INDEX, () -> x.reached(0, 0));
        due(when + ": message(0)", INDEX, () -> x.message(0));
        same(when + ": printed", "", printed(x));
        same(when + ": drawn", "\n", drawn(x));
    }
}
