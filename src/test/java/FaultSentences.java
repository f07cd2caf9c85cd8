/** The terms' sentences on faults. */
final class FaultSentences {
    private static final String ABM = Texts.ABM;
    private static final String FULL = "ask " + Texts.EIGHT + ",";
    private static final String FOUR = ABM + "on a b: take, take, keep, keep, ";

    private FaultSentences() {
    }

    static void run() {
        Doc.each(
            FaultSentences::places, FaultSentences::order, FaultSentences::noLexeme, FaultSentences::doesNotFit,
            FaultSentences::tooMany, FaultSentences::thereAlready, FaultSentences::notTold, FaultSentences::otherSort,
            FaultSentences::pairAlready);
    }

    private static void places() {
        Doc.sentence(Doc.TERMS, "FAULTS, number and place (a byte; the text's length for its end),");
        Check.faulty(1, "|$");
        Check.faulty(2, "|;");
        Check.faulty(2, " \n|;");
        Check.faulty(2, "#;\n|;");
        Check.faulty(1, Texts.spaced("state a;", 4096, "|") + "$");
        Check.faulty(2, Texts.spaced("state a;", 4096, "|") + ";");
        Check.faulty(5, "state a; first |abcdefghijkl;");
        Check.faulty(2, "state|");
        Check.faulty(2, "state a|");
        Check.faulty(2, "state a \n\n|");
        Check.faulty(2, "state a # ; \n|");
        Check.faulty(2, "state a # ;|");
        Check.faulty(2, Texts.spaced("state a", 4096, "") + "|");
        Check.faulty(2, Texts.spaced("state a #", 4096, "") + "|");
    }

    private static void order() {
        Doc.sentence(Doc.TERMS, "the first one by its place, lexeme by lexeme (of one lexeme the lowest number):");
        Check.faulty(7, ABM + "never a b; never a |b state $");
        Check.faulty(6, ABM + "first |b $");
        Check.faulty(5, ABM + "first |c $");
        Check.faulty(4, ABM + "state |a $");
        Check.faulty(3, FULL + "|one $");
        Check.faulty(2, ABM + "|; $");
        Check.faulty(1, ABM + "|$ ;");
        Check.faulty(5, ABM + "on |c zz: take take > b");
        Check.faulty(3, FOUR + "|send zz > zz;");
        Check.faulty(1, FULL + "|abcdefghijklm;");
        Check.faulty(1, ABM + "|abcdefghijklm;");
        Check.faulty(1, ABM + "first |abcdefghijklm;");
        Check.faulty(1, FOUR + "|abcdefghijklm > a;");
        Check.faulty(2, FULL + "|on;");
        Check.faulty(2, FULL + "|;");
        Check.faulty(2, FOUR + "|b > a;");
        Check.faulty(3, FULL + "|q;");
        Check.faulty(3, "state a; " + FULL + "|a;");
    }

    private static void noLexeme() {
        Doc.sentence(Doc.TERMS, "1 what begins no lexeme, or a name of more than 12.");
        for (int b : new int[] {0, 8, 11, 12, 14, 31, '!', '"', '+', '/', '<', '=', 'A', 'Z', '_', '`', '{', 127, 128, 255}) {
            Check.faulty(1, "|" + (char) b);
            Check.faulty(1, "state a|" + (char) b + ";");
        }
        Check.faulty(1, "|0");
        Check.faulty(1, "state |9a;");
        Check.faulty(1, "state a |9;");
        Check.sound(0, "state abcdefghijkl;");
        Check.faulty(1, "state |abcdefghijklm;");
        Check.faulty(1, "state |" + "a".repeat(4090));
        Check.faulty(1, "|statestatesta a;");
    }

    private static void doesNotFit() {
        Doc.sentence(Doc.TERMS, "2 a lexeme that does not fit, or the end.");
        Check.faulty(2, "|a;");
        Check.faulty(2, "state a|:");
        Check.faulty(2, ABM + "on a b|;");
        Check.faulty(2, ABM + "never a b |take;");
        Check.faulty(2, "state|");
        Check.faulty(2, ABM + "on a b: > a|");
        Check.sound(0, "state a;");
    }

    private static void tooMany() {
        Doc.sentence(Doc.TERMS, "3 a NAME (or action: its first lexeme) that would be one too many.");
        Check.sound(0, "state " + Texts.SIXTEEN + ";");
        Check.faulty(3, "state " + Texts.SIXTEEN + ", |q, r;");
        Check.faulty(3, "state " + Texts.SIXTEEN + "; ask z; state |q;");
        Check.sound(0, "ask " + Texts.EIGHT + ";");
        Check.faulty(3, "ask " + Texts.EIGHT + ", |i, j;");
        Check.sound(0, "message " + Texts.SIXTEEN + ";");
        Check.faulty(3, "message " + Texts.SIXTEEN + ", |q, r;");
        Check.sound(1, ABM + "on a b: send m, send m, send m, send m > a;");
        Check.faulty(3, FOUR + "|send m > a;");
        Check.faulty(3, FOUR + "|send a > a;");
        Check.faulty(3, FOUR + "|send");
        Check.faulty(3, FOUR + "|take > a;");
        Check.faulty(3, FOUR + "|keep, keep > a;");
    }

    private static void thereAlready() {
        Doc.sentence(Doc.TERMS, "4 a NAME (behind state, ask, message) that is there already.");
        for (String sort : new String[] {"state", "ask", "message"}) {
            for (String told : new String[] {"a", "b", "m"}) {
                Check.faulty(4, ABM + sort + " |" + told + ";");
            }
            Check.faulty(4, sort + " same, |same;");
            Check.faulty(4, sort + " abcdefghijkl; " + sort + " |abcdefghijkl;");
            Check.sound(0, sort + " abcdefghijkl, abcdefghijkm, abcdefghijk, bbcdefghijkl;");
        }
        Check.faulty(4, Texts.ALL_NAMES.replace("state a,", "state ") + "state |an;");
    }

    private static void notTold() {
        Doc.sentence(Doc.TERMS, "5 a NAME that was not told before.");
        Check.faulty(5, "on |a b: > a;");
        Check.faulty(5, "never |a b;");
        Check.faulty(5, "first |a; state a;");
        Check.faulty(5, ABM + "on |c b: > a;");
        Check.faulty(5, ABM + "on a |c: > a;");
        Check.faulty(5, ABM + "on a b: > |c; state c;");
        Check.faulty(5, ABM + "on a b: send |c > a; message c;");
        Check.faulty(5, ABM + "never |c b;");
        Check.faulty(5, ABM + "never a |c; ask c;");
        Check.faulty(5, ABM + "first |aa;");
        Check.sound(0, "state a; first a;");
    }

    private static void otherSort() {
        Doc.sentence(Doc.TERMS, "6 a NAME of another sort than wanted.");
        for (String event : new String[] {"b", "m"}) {
            Check.faulty(6, ABM + "on |" + event + " b: > a;");
            Check.faulty(6, ABM + "on a b: > |" + event + ";");
            Check.faulty(6, ABM + "never |" + event + " b;");
            Check.faulty(6, ABM + "first |" + event + ";");
        }
        Check.faulty(6, ABM + "on a |a: > a;");
        Check.faulty(6, ABM + "never a |a;");
        Check.faulty(6, ABM + "on a b: send |a > a;");
        Check.faulty(6, ABM + "on a b: send |b > a;");
        Check.faulty(6, Texts.ALL_NAMES + "first |q;");
        Check.faulty(6, Texts.ALL_NAMES + "on a q: send |x > a;");
        Check.faulty(6, Texts.ALL_NAMES + "on a |p: > a;");
        Check.sound(1, Texts.ALL_NAMES + "first p; on p q: send y > p;");
    }

    private static void pairAlready() {
        Doc.sentence(Doc.TERMS,
            "7 an EVENT (behind on or never) for which, with this STATE, there is a rule or never already.");
        for (String event : new String[] {"b", "m"}) {
            for (String told : new String[] {"on a " + event + ": > a; ", "never a " + event + "; "}) {
                Check.faulty(7, ABM + told + "on a |" + event + ": > a;");
                Check.faulty(7, ABM + told + "never a |" + event + ";");
            }
        }
        Check.faulty(7, ABM + "on a b: > a; state c; ask d; on a |b: take > c;");
        Check.sound(2, ABM + "state c; on a b: > a; on c b: > a; never a m; never c m;");
        Check.sound(1, ABM + "on a b: > a; never a m;");
        Check.sound(1, ABM + "on a b: send m, send m > a;");
    }
}
