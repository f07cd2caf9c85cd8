/** Texts at the limits of the document, which several tests feed. */
final class Texts {
    static final String SIXTEEN = "a,b,c,d,e,f,g,h,i,j,k,l,m,n,o,p";
    static final String EIGHT = "q,r,s,t,u,v,w,x";
    static final String SIXTEEN_MORE = "y,z,aa,ab,ac,ad,ae,af,ag,ah,ai,aj,ak,al,am,an";
    /** As many names of each sort as there may be. */
    static final String ALL_NAMES = "state " + SIXTEEN + ";ask " + EIGHT + ";message " + SIXTEEN_MORE + ";";
    /** One name of each sort. */
    static final String ABM = "state a; ask b; message m; ";

    private Texts() {
    }

    /** Begin and end with so many blanks between that there are so many bytes. */
    static String spaced(String begin, int bytes, String end) {
        return begin + " ".repeat(bytes - begin.length() - end.length()) + end;
    }

    /** All names, and rules as short as can be until the text is full: it prints longer than a text. */
    static String dense() {
        StringBuilder text = new StringBuilder(ALL_NAMES);
        for (String state : SIXTEEN.split(",")) {
            for (String event : (EIGHT + "," + SIXTEEN_MORE).split(",")) {
                String rule = "on " + state + " " + event + ":>a;";
                if (text.length() + rule.length() <= 4096) {
                    text.append(rule);
                }
            }
        }
        return text.toString();
    }

    /** A printing of so many bytes: rules as long as fit, and messages whose names fill the rest. */
    static String printing(int bytes) {
        String head = "state " + SIXTEEN.replace(",", ", ") + ";\nask " + EIGHT.replace(",", ", ") + ";\n";
        StringBuilder rules = new StringBuilder("first a;\n");
        int left = bytes - head.length() - rules.length() - "message ;\n".length();
        for (int i = 0; left > 80; i++) {
            String rule = "on " + (char) ('a' + i / 8) + " " + (char) ('q' + i % 8) + ": take, keep, take, keep > a;\n";
            rules.append(rule);
            left -= rule.length();
        }
        StringBuilder names = new StringBuilder();
        for (int i = 0; left > 0; i++) {
            int letters = left > 24 ? 10 : left > 12 ? 6 : left;
            names.append("z").append((char) ('a' + i)).append("xxxxxxxxxx", 0, letters - 2);
            left -= letters;
            if (left > 0) {
                names.append(", ");
                left -= 2;
            }
        }
        return head + "message " + names + ";\n" + rules;
    }

    /** The same without what a text need not have, so that it is fed in fewer bytes than it prints. */
    static String compact(String printing) {
        return printing.replace("\n", "").replace(", ", ",").replace(": ", ":").replace(" > ", ">");
    }

    /**
     * Draws 4096 bytes: 16 lines of 255 and the end, 12 + 18 * 13 + 7 + 2. One byte more, when a rule in the last
     * column leads to a state of two letters: the other lines leave the blank behind out.
     */
    static String drawing4096(boolean oneMore) {
        StringBuilder text = new StringBuilder("state abcdefghijkl,s2");
        for (int i = 2; i < 15; i++) {
            text.append(",").append((char) ('a' + i));
        }
        text.append(";ask ");
        for (int i = 0; i < 18; i++) {
            text.append(i == 0 ? "" : i == 8 ? ";message " : ",").append("event").append((char) ('a' + i)).append("xxxxxx");
        }
        text.append(",eventy,z;on s2 z:>").append(oneMore ? "s2" : "c").append(";");
        return text.toString();
    }

    /** All names as long as can be, and rules in the last column: nothing is drawn longer than its 17 * 325 bytes. */
    static String longestDrawing() {
        StringBuilder text = new StringBuilder(longestNames());
        for (int state = 0; state < 16; state++) {
            text.append("on ").append(longName(0, state)).append(" ").append(longName(2, 15));
            text.append(":>").append(longName(0, 0)).append(";");
        }
        return text.toString();
    }

    static String longestNames() {
        StringBuilder text = new StringBuilder();
        String[] sorts = {"state", "ask", "message"};
        for (int sort = 0; sort < 3; sort++) {
            for (int i = 0; i < (sort == 1 ? 8 : 16); i++) {
                text.append(sorts[sort]).append(" ").append(longName(sort, i)).append(";");
            }
        }
        return text.toString();
    }

    private static String longName(int sort, int i) {
        return "abc".substring(sort, sort + 1) + (char) ('a' + i) + "xxxxxxxxxx";
    }
}
