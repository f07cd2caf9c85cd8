/** Promises 4 and 5: reading, and the faults with their places. */
public final class FaultTest {
    private static final String AB = "state a; ask b; message m; ";

    public static void main(String[] args) {
        lexemes();
        fitting();
        tooMany();
        names();
        pairs();
        lowestNumberFirst();
        afterReading();
        Check.finish();
    }

    /** A bar stands before the lexeme that has the fault. */
    private static void faulty(int fault, String marked) {
        String text = marked.replace("|", "");
        ProtocolText x = Check.reading("state before; ask some;");
        Check.feedText(x, text);
        Check.due("read() of " + marked, Check.ARGUMENT, () -> x.read());
        Check.due("fault(0) of " + marked, fault, () -> x.fault(0));
        Check.due("fault(1) of " + marked, marked.indexOf('|'), () -> x.fault(1));
        Check.due("count(0) behind " + marked, 0, () -> x.count(0));
        Check.nothingRead("behind " + marked, x);
    }

    private static void sound(int rules, String text) {
        ProtocolText x = new ProtocolText();
        Check.feedText(x, text);
        Check.due("read() of " + text, rules, () -> x.read());
        Check.due("fault(0) of " + text, 0, () -> x.fault(0));
        Check.due("fault(1) of " + text, 0, () -> x.fault(1));
        Check.due("count(0) behind " + text, 0, () -> x.count(0));
    }

    private static void lexemes() {
        for (int b = 0; b < 256; b++) {
            boolean fits = b == 9 || b == 10 || b == 13 || b == 32 || b == '#';
            boolean begins = b >= 'a' && b <= 'z' || b == ':' || b == ';' || b == ',' || b == '>';
            if (fits) {
                sound(0, "state a; " + (char) b);
            } else if (b != '|') {
                faulty(begins ? 2 : 1, "state a; |" + (char) b);
            }
        }
        faulty(1, "state |abcdefghijklm;");
        faulty(1, "state a, |a12345678901234;");
        sound(0, "state abcdefghijkl, a12345678901;");
        faulty(1, "state |1a;");
        faulty(1, "state a|A;");
        faulty(1, "state a|_b;");
        faulty(1, "state a|\u00e9;");
        faulty(1, "|\u0000");
        sound(0, "state\ta\r\n,b # comment ; state $ \r %\n;#the end");
        sound(0, "#\n##\n#");
        sound(1, "state a;ask b;on a b:>a;");
        sound(1, "state#x\na#x\n;ask b;on#x\na#x\nb#x\n:#x\ntake#x\n,#x\nkeep#x\n>#x\na#x\n;");
        faulty(2, "state a#;\r;|");
    }

    private static void fitting() {
        faulty(2, "|a");
        faulty(2, "|;");
        faulty(2, "|send");
        faulty(2, "state|");
        faulty(2, "state   |");
        faulty(2, "state # a;|");
        faulty(2, "state |;");
        faulty(2, "state a|");
        faulty(2, "state a |b;");
        faulty(2, "state a,|");
        faulty(2, "state a,|;");
        faulty(2, "state a,|,b;");
        faulty(2, "state a|:");
        faulty(2, "state a|>");
        for (String word : new String[] {"state", "ask", "message", "on", "never", "first", "send", "take", "keep"}) {
            faulty(2, "state |" + word + ";");
            faulty(2, "ask |" + word + ";");
            faulty(2, "message |" + word + ";");
            faulty(2, AB + "on |" + word + " b: > a;");
            faulty(2, AB + "never a |" + word + ";");
            faulty(2, AB + "first |" + word + ";");
            faulty(2, AB + "on a b: > |" + word + ";");
            faulty(2, AB + "on a b: send |" + word + " > a;");
            sound(0, "state " + word + "x, " + word.substring(1) + ";");
        }
        for (String word : new String[] {"send", "take", "keep"}) {
            faulty(2, AB + "|" + word + " m;");
        }
        for (String word : new String[] {"state", "ask", "message", "on", "never", "first", "a", "b", "m", "zz", ":", ";", ","}) {
            faulty(2, AB + "on a b: |" + word + " > a;");
            faulty(2, AB + "on a b: take, |" + word + " > a;");
        }
        faulty(2, AB + "on|");
        faulty(2, AB + "on a|");
        faulty(2, AB + "on a|:");
        faulty(2, AB + "on a b|");
        faulty(2, AB + "on a b|;");
        faulty(2, AB + "on a b |> a;");
        faulty(2, AB + "on a b:|");
        faulty(2, AB + "on a b:|:");
        faulty(2, AB + "on a b: take|");
        faulty(2, AB + "on a b: take |take > a;");
        faulty(2, AB + "on a b: take|;");
        faulty(2, AB + "on a b: take,|> a;");
        faulty(2, AB + "on a b: send|");
        faulty(2, AB + "on a b: send |> a;");
        faulty(2, AB + "on a b: >|");
        faulty(2, AB + "on a b: >|;");
        faulty(2, AB + "on a b: >|> a;");
        faulty(2, AB + "on a b: > a|");
        faulty(2, AB + "on a b: > a|, a;");
        faulty(2, AB + "never a b|: > a;");
        faulty(2, AB + "never a b|");
        faulty(2, AB + "first|");
        faulty(2, AB + "first a|, a;");
        faulty(2, AB + "first a|");
    }

    private static void tooMany() {
        String sixteen = "a,b,c,d,e,f,g,h,i,j,k,l,m,n,o,p";
        sound(0, "state " + sixteen + ";");
        faulty(3, "state " + sixteen + ",|q;");
        faulty(3, "state " + sixteen + "; ask x; state |q;");
        sound(0, "message " + sixteen + ";");
        faulty(3, "message " + sixteen + ",|q;");
        sound(0, "ask a,b,c,d,e,f,g,h;");
        faulty(3, "ask a,b,c,d,e,f,g,h,|i;");
        sound(0, "state " + sixteen + "; ask q,r,s,t,u,v,w,x; message " + sixteen.replace(",", "2,") + "2;");
        sound(1, AB + "on a b: take, keep, send m, send m > a;");
        for (String action : new String[] {"take", "keep", "send", "send zz", "send a"}) {
            faulty(3, AB + "on a b: take, keep, send m, take, |" + action + " > a;");
        }
        faulty(2, AB + "on a b: take, keep, send m, take, |a > a;");
        faulty(2, AB + "on a b: take, keep, send m, take, |> a;");
        faulty(2, AB + "on a b: take, keep, send m, take,|");
        sound(2, AB + "on a b: take, take, take, take > a; on a m: keep, keep, keep, keep > a;");
    }

    private static void names() {
        for (String sort : new String[] {"state", "ask", "message"}) {
            for (String told : new String[] {"a", "b", "m"}) {
                faulty(4, AB + sort + " |" + told + ";");
                faulty(4, AB + sort + " other, |" + told + ";");
            }
            faulty(4, sort + " same, |same;");
            sound(0, sort + " same, samer, sam;");
        }
        faulty(5, "on |a b: > c;");
        faulty(5, AB + "on a |c: > a;");
        faulty(5, AB + "on a b: > |c;");
        faulty(5, AB + "on a b: send |c > a;");
        faulty(5, AB + "never |c b;");
        faulty(5, AB + "never a |c;");
        faulty(5, AB + "first |c;");
        faulty(5, AB + "first |aa; state aa;");
        faulty(5, "first |a; state a;");
        faulty(6, AB + "on |b b: > a;");
        faulty(6, AB + "on |m b: > a;");
        faulty(6, AB + "on a |a: > a;");
        faulty(6, AB + "on a b: > |b;");
        faulty(6, AB + "on a b: > |m;");
        faulty(6, AB + "on a b: send |a > a;");
        faulty(6, AB + "on a b: send |b > a;");
        faulty(6, AB + "never |b b;");
        faulty(6, AB + "never |m b;");
        faulty(6, AB + "never a |a;");
        faulty(6, AB + "first |b;");
        faulty(6, AB + "first |m;");
    }

    private static void pairs() {
        for (String told : new String[] {"on a %: > a; ", "never a %; "}) {
            for (String event : new String[] {"b", "m"}) {
                String before = AB + told.replace("%", event);
                faulty(7, before + "on a |" + event + ": > a;");
                faulty(7, before + "never a |" + event + ";");
                faulty(7, before + "on a |" + event + " $");
            }
        }
        sound(2, AB + "state c; on a b: > a; on c b: > a; never a m; never c m;");
    }

    private static void lowestNumberFirst() {
        faulty(1, "|abcdefghijklm");
        faulty(2, "ask a,b,c,d,e,f,g,h,|on;");
        faulty(3, "ask a,b,c,d,e,f,g,h,|a;");
        faulty(4, "state a, |a $");
        faulty(1, "state a |$ state a;");
        faulty(2, "state a; |; $ ");
    }

    private static void afterReading() {
        ProtocolText x = Check.reading(AB + "state z; first z; on a b: send m, take > z; never a m;");
        x.print();
        String page = Check.page(x);
        Check.feedText(x, "state q;");
        Check.due("the second read()", 0, () -> x.read());
        Check.same("what was printed before", page, Check.page(x));
        Check.same("what was read before is gone", "state q;\nfirst q;\n", Check.printed(x));
        Check.due("the first state too", 0, () -> x.count(8));
        Check.due("rules", 0, () -> x.count(4));
        Check.due("nevers", 0, () -> x.count(5));
        Check.feedText(x, AB + "on a b: > a; on a m: > a;");
        Check.due("the third read()", 2, () -> x.read());
        Check.due("no action is left from before", -1, () -> x.action(0, 0, 0));
        Check.feedText(x, "$");
        Check.due("a wrong read()", Check.ARGUMENT, () -> x.read());
        Check.due("fault(0)", 1, () -> x.fault(0));
        Check.due("fault(-1)", Check.INDEX, () -> x.fault(-1));
        Check.due("fault(2)", Check.INDEX, () -> x.fault(2));
        Check.due("fault(least)", Check.INDEX, () -> x.fault(Integer.MIN_VALUE));
        Check.due("read() of the empty text", 0, () -> x.read());
        Check.due("fault(0) is gone", 0, () -> x.fault(0));
        Check.nothingRead("behind the empty text", x);
    }
}
