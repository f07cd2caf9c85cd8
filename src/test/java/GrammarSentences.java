/** The terms' sentences on the grammar and its limits. */
final class GrammarSentences {
    private static final String ABM = Texts.ABM;

    private GrammarSentences() {
    }

    static void run() {
        Doc.each(
            GrammarSentences::asOften, GrammarSentences::statements, GrammarSentences::statement,
            GrammarSentences::action, GrammarSentences::namesOnly, GrammarSentences::limits,
            GrammarSentences::events);
    }

    private static void asOften() {
        Doc.sentence(Doc.TERMS, "GRAMMAR ({{ }} as often as one likes).");
        Check.sound(0, "");
        Check.sound(0, "state a;" + "first a;".repeat(511));
        ProtocolText apart = Check.reading("state a;state b;ask c;state d;ask e;message f;message g;");
        ProtocolText together = Check.reading("state a,b,d;ask c,e;message f,g;");
        Check.same("one name each time, or all at once", Check.printed(together), Check.printed(apart));
        Check.sound(1, ABM + "on a b: take > a;");
        Check.sound(1, ABM + "on a b: take, take, take > a;");
    }

    private static void statements() {
        Doc.sentence(Doc.TERMS, "text: {{ statement }}.");
        Check.sound(0, "");
        Check.sound(0, " ");
        Check.sound(0, "state a;state b;");
        Check.faulty(2, "|;");
        Check.faulty(2, "|a");
        Check.faulty(2, "state a;|;");
        Check.faulty(2, "state a;|b;");
        for (String word : new String[] {"send", "take", "keep", ":", ",", ">"}) {
            Check.faulty(2, ABM + "|" + word + " m;");
        }
    }

    private static void statement() {
        Doc.sentence(Doc.TERMS, "statement: (state | ask | message) NAME {{ , NAME }} ; "
            + "| on STATE EVENT : [ action {{ , action }} ] > STATE ; | never STATE EVENT ; | first STATE ;");
        cutShort("", "state a , b ;");
        cutShort("", "ask a , b ;");
        cutShort("", "message a , b ;");
        cutShort(ABM, "on a b : > a ;");
        cutShort(ABM, "on a b : send m , take > a ;");
        cutShort(ABM, "never a b ;");
        cutShort(ABM, "first a ;");
        for (String sort : new String[] {"state ", "ask ", "message "}) {
            Check.faulty(2, sort + "|;");
            Check.faulty(2, sort + "|, a;");
            Check.faulty(2, sort + "a,|;");
            Check.faulty(2, sort + "a,|,b;");
            Check.faulty(2, sort + "a |b;");
        }
        Check.faulty(2, ABM + "on a |: > a;");
        Check.faulty(2, ABM + "on a b |> a;");
        Check.faulty(2, ABM + "on a b:|;");
        Check.faulty(2, ABM + "on a b: |a;");
        Check.faulty(2, ABM + "on a b: |, take > a;");
        Check.faulty(2, ABM + "on a b: take, |> a;");
        Check.faulty(2, ABM + "on a b: take |keep > a;");
        Check.faulty(2, ABM + "on a b: take |a;");
        Check.faulty(2, ABM + "on a b: > |;");
        Check.faulty(2, ABM + "on a b: > a|, a;");
        Check.faulty(2, ABM + "never a |;");
        Check.faulty(2, ABM + "never a b|, m;");
        Check.faulty(2, ABM + "never a b|: > a;");
        Check.faulty(2, ABM + "first |;");
        Check.faulty(2, ABM + "first a|, a;");
    }

    /** The whole statement is sound; behind each lexeme but the last, the end does not fit. */
    private static void cutShort(String before, String spaced) {
        String[] lexemes = spaced.split(" ");
        String begun = before;
        for (int i = 0; i + 1 < lexemes.length; i++) {
            begun = begun + lexemes[i];
            Check.faulty(2, begun + "|");
            begun = begun + " ";
            Check.faulty(2, begun + "|");
        }
        Check.sound(spaced.startsWith("on") ? 1 : 0, before + spaced);
    }

    private static void action() {
        Doc.sentence(Doc.TERMS, "action: send MESSAGE | take | keep.");
        ProtocolText x = Check.reading(ABM + "on a b: send m, take, keep > a;");
        Check.due("send", 0, () -> x.action(0, 0, 0));
        Check.due("take", 100, () -> x.action(0, 0, 1));
        Check.due("keep", 101, () -> x.action(0, 0, 2));
        Check.faulty(2, ABM + "on a b: send |> a;");
        Check.faulty(2, ABM + "on a b: send|, take > a;");
        Check.faulty(2, ABM + "on a b: send m |m > a;");
        Check.faulty(2, ABM + "on a b: take |m > a;");
        Check.faulty(2, ABM + "on a b: keep |m > a;");
        for (String none : new String[] {"state", "ask", "message", "on", "never", "first", "m", "zz", ":", ";", ","}) {
            Check.faulty(2, ABM + "on a b: |" + none + " > a;");
            Check.faulty(2, ABM + "on a b: take, |" + none + " > a;");
        }
    }

    private static void namesOnly() {
        Doc.sentence(Doc.TERMS, "(STATE, EVENT, MESSAGE: NAMES.)");
        for (String none : "state ask message on never first send take keep : ; , >".split(" ")) {
            Check.faulty(2, ABM + "on |" + none + " b: > a;");
            Check.faulty(2, ABM + "on a |" + none + " : > a;");
            Check.faulty(2, ABM + "on a b: > |" + none + ";");
            Check.faulty(2, ABM + "on a b: send |" + none + " > a;");
            Check.faulty(2, ABM + "never |" + none + " b;");
            Check.faulty(2, ABM + "never a |" + none + ";");
            Check.faulty(2, ABM + "first |" + none + ";");
        }
    }

    private static void limits() {
        Doc.sentence(Doc.TERMS, "Up to 16 states, 8 asks, 16 messages, 4 actions a rule.");
        ProtocolText x = Check.reading(Texts.ALL_NAMES + "on p an: send an, take, send y, keep > p;");
        Check.due("16 states", 16, () -> x.count(1));
        Check.due("8 asks", 8, () -> x.count(2));
        Check.due("16 messages", 16, () -> x.count(3));
        Check.due("the last pair's rule", 15, () -> x.next(15, 23));
        Check.due("its first action", 15, () -> x.action(15, 23, 0));
        Check.due("its last action", 101, () -> x.action(15, 23, 3));
        Check.faulty(3, Texts.ALL_NAMES + "state |one;");
        Check.faulty(3, Texts.ALL_NAMES + "ask |one;");
        Check.faulty(3, Texts.ALL_NAMES + "message |one;");
        Check.faulty(3, "state " + Texts.SIXTEEN + ",|one;");
        Check.faulty(3, "ask " + Texts.EIGHT + ",|one;");
        Check.faulty(3, "message " + Texts.SIXTEEN + ",|one;");
        Check.faulty(3, ABM + "on a b: take, keep, take, keep, |take > a;");
        Check.sound(2, ABM + "on a b: take, keep, take, keep > a; on a m: send m, send m, send m, send m > a;");
    }

    private static void events() {
        Doc.sentence(Doc.TERMS, "EVENTS are asks and messages.");
        Check.sound(2, ABM + "on a b: > a; on a m: > a;");
        Check.sound(0, ABM + "never a b; never a m;");
        Check.faulty(6, ABM + "on a |a: > a;");
        Check.faulty(6, ABM + "never a |a;");
    }
}
