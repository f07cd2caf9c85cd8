import java.io.IOException;
import java.io.UncheckedIOException;
import java.nio.file.Files;
import java.nio.file.Path;
import java.util.BitSet;
import java.util.LinkedHashMap;
import java.util.Map;

/**
 * The document's sentences. A test says here which one it is of, in the document's own words; at the end there must be
 * no word of them that no test was of. (Only the face, which FaceTest looks at, and what is not promised stand apart.)
 */
final class Doc {
    static final String IS = "What it is";
    static final String TERMS = "Terms";

    private static final Map<String, String> SECTIONS = new LinkedHashMap<>();
    private static final Map<String, BitSet> QUOTED = new LinkedHashMap<>();
    private static String latest = "";
    private static int madeBefore = 0;

    private Doc() {
    }

    static void open() {
        try {
            String whole = Files.readString(Path.of("../shared/DOC.md"));
            for (String part : whole.split("(?m)^## ")) {
                int line = part.indexOf('\n');
                if (line >= 0) {
                    SECTIONS.put(part.substring(0, line).trim(), wordsOf(part.substring(line)));
                    QUOTED.put(part.substring(0, line).trim(), new BitSet());
                }
            }
        } catch (IOException e) {
            throw new UncheckedIOException(e);
        }
    }

    /** A promise begins with its method's declaration, which FaceTest looks at. */
    private static String wordsOf(String section) {
        return section.trim().replaceFirst("^`[^`]*\\([^`]*`: ", "").replaceAll("\\s+", " ");
    }

    /** A test that ends by an exception fails alone: the others are run all the same. */
    static void each(Runnable... tests) {
        for (Runnable test : tests) {
            try {
                test.run();
            } catch (RuntimeException e) {
                Check.same("its test comes to its end", "", e.toString());
            }
        }
    }

    static void sentence(String section, String quote) {
        endLatest();
        latest = section + ", \"" + quote + "\"";
        Check.about(latest + ": ");
        String words = SECTIONS.getOrDefault(section, "");
        int from = words.indexOf(quote);
        Check.same("the document says this, once", "true", "" + (from >= 0 && from == words.lastIndexOf(quote)));
        if (from >= 0) {
            QUOTED.get(section).set(from, from + quote.length());
        }
        madeBefore = Check.made();
    }

    private static void endLatest() {
        if (!latest.isEmpty()) {
            Check.same("its test looked at something", "true", "" + (Check.made() > madeBefore));
        }
    }

    static void close() {
        endLatest();
        Check.about("");
        int looked = 0;
        for (String section : SECTIONS.keySet()) {
            if (section.equals(IS) || section.equals(TERMS) || section.startsWith("Promise ")) {
                looked++;
                Check.same("without a test in " + section, "", leftOf(section));
            }
        }
        Check.same("what it is, the terms and the promises were found", "17", "" + looked);
    }

    private static String leftOf(String section) {
        StringBuilder left = new StringBuilder();
        String words = SECTIONS.get(section);
        for (int i = 0; i < words.length(); i++) {
            if (!QUOTED.get(section).get(i)) {
                left.append(words.charAt(i));
            }
        }
        return left.toString().trim();
    }
}
