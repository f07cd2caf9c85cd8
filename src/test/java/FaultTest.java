/** Promises 4 and 5: reading, and the faults with their places. */
public final class FaultTest {
    private static final String AB = Texts.ABM;

    public static void main(String[] args) {
        lexemes();
        fitting();
        tooMany();
        names();
        pairs();
        lowestNumberFirst();
        afterReading();
        Check.finish();
    }

    private static void lexemes() {
        for (int b = 0; b < 256; b++) {
            boolean fits = b == 9 || b == 10 || b == 13 || b == 32 || b == '#';
            boolean begins = b >= 'a' && b <= 'z' || b == ':' || b == ';' || b == ',' || b == '>';
            if (fits) {
                Check.sound(0, "state a; " + (char) b);
            } else if (b != '|') {
                Check.faulty(begins ? 2 : 1, "state a; |" + (char) b);
            }
        }
        Check.faulty(1, "state |abcdefghijklm;");
        Check.faulty(1, "state a, |a12345678901234;");
        Check.sound(0, "state abcdefghijkl, a12345678901;");
        Check.faulty(1, "state |1a;");
        Check.faulty(1, "state a|A;");
        Check.faulty(1, "state a|_b;");
        Check.faulty(1, "state a|\u00e9;");
        Check.faulty(1, "|\u0000");
        Check.sound(0, "state\ta\r\n,b # comment ; state $ \r %\n;#the end");
        Check.sound(0, "#\n##\n#");
        Check.sound(1, "state a;ask b;on a b:>a;");
        Check.sound(1, "state#x\na#x\n;ask b;on#x\na#x\nb#x\n:#x\ntake#x\n,#x\nkeep#x\n>#x\na#x\n;");
        Check.faulty(2, "state a#;\r;|");
    }

    private static void fitting() {
        Check.faulty(2, "|a");
        Check.faulty(2, "|;");
        Check.faulty(2, "|send");
        Check.faulty(2, "state|");
        Check.faulty(2, "state   |");
        Check.faulty(2, "state # a;|");
        Check.faulty(2, "state |;");
        Check.faulty(2, "state a|");
        Check.faulty(2, "state a |b;");
        Check.faulty(2, "state a,|");
        Check.faulty(2, "state a,|;");
        Check.faulty(2, "state a,|,b;");
        Check.faulty(2, "state a|:");
        Check.faulty(2, "state a|>");
        for (String word : new String[] {"state", "ask", "message", "on", "never", "first", "send", "take", "keep"}) {
            Check.faulty(2, "state |" + word + ";");
            Check.faulty(2, "ask |" + word + ";");
            Check.faulty(2, "message |" + word + ";");
            Check.faulty(2, AB + "on |" + word + " b: > a;");
            Check.faulty(2, AB + "never a |" + word + ";");
            Check.faulty(2, AB + "first |" + word + ";");
            Check.faulty(2, AB + "on a b: > |" + word + ";");
            Check.faulty(2, AB + "on a b: send |" + word + " > a;");
            Check.sound(0, "state " + word + "x, " + word.substring(1) + ";");
        }
        for (String word : new String[] {"send", "take", "keep"}) {
            Check.faulty(2, AB + "|" + word + " m;");
        }
        for (String word : new String[] {"state", "ask", "message", "on", "never", "first", "a", "b", "m", "zz", ":", ";", ","}) {
            Check.faulty(2, AB + "on a b: |" + word + " > a;");
            Check.faulty(2, AB + "on a b: take, |" + word + " > a;");
        }
        Check.faulty(2, AB + "on|");
        Check.faulty(2, AB + "on a|");
        Check.faulty(2, AB + "on a|:");
        Check.faulty(2, AB + "on a b|");
        Check.faulty(2, AB + "on a b|;");
        Check.faulty(2, AB + "on a b |> a;");
        Check.faulty(2, AB + "on a b:|");
        Check.faulty(2, AB + "on a b:|:");
        Check.faulty(2, AB + "on a b: take|");
        Check.faulty(2, AB + "on a b: take |take > a;");
        Check.faulty(2, AB + "on a b: take|;");
        Check.faulty(2, AB + "on a b: take,|> a;");
        Check.faulty(2, AB + "on a b: send|");
        Check.faulty(2, AB + "on a b: send |> a;");
        Check.faulty(2, AB + "on a b: >|");
        Check.faulty(2, AB + "on a b: >|;");
        Check.faulty(2, AB + "on a b: >|> a;");
        Check.faulty(2, AB + "on a b: > a|");
        Check.faulty(2, AB + "on a b: > a|, a;");
        Check.faulty(2, AB + "never a b|: > a;");
        Check.faulty(2, AB + "never a b|");
        Check.faulty(2, AB + "first|");
        Check.faulty(2, AB + "first a|, a;");
        Check.faulty(2, AB + "first a|");
    }

    private static void tooMany() {
        String sixteen = Texts.SIXTEEN;
        Check.sound(0, "state " + sixteen + ";");
        Check.faulty(3, "state " + sixteen + ",|q;");
        Check.faulty(3, "state " + sixteen + "; ask x; state |q;");
        Check.sound(0, "message " + sixteen + ";");
        Check.faulty(3, "message " + sixteen + ",|q;");
        Check.sound(0, "ask a,b,c,d,e,f,g,h;");
        Check.faulty(3, "ask a,b,c,d,e,f,g,h,|i;");
        Check.sound(0, "state " + sixteen + "; ask q,r,s,t,u,v,w,x; message " + sixteen.replace(",", "2,") + "2;");
        Check.sound(1, AB + "on a b: take, keep, send m, send m > a;");
        for (String action : new String[] {"take", "keep", "send", "send zz", "send a"}) {
            Check.faulty(3, AB + "on a b: take, keep, send m, take, |" + action + " > a;");
        }
        Check.faulty(2, AB + "on a b: take, keep, send m, take, |a > a;");
        Check.faulty(2, AB + "on a b: take, keep, send m, take, |> a;");
        Check.faulty(2, AB + "on a b: take, keep, send m, take,|");
        Check.sound(2, AB + "on a b: take, take, take, take > a; on a m: keep, keep, keep, keep > a;");
    }

    private static void names() {
        for (String sort : new String[] {"state", "ask", "message"}) {
            for (String told : new String[] {"a", "b", "m"}) {
                Check.faulty(4, AB + sort + " |" + told + ";");
                Check.faulty(4, AB + sort + " other, |" + told + ";");
            }
            Check.faulty(4, sort + " same, |same;");
            Check.sound(0, sort + " same, samer, sam;");
        }
        Check.faulty(5, "on |a b: > c;");
        Check.faulty(5, AB + "on a |c: > a;");
        Check.faulty(5, AB + "on a b: > |c;");
        Check.faulty(5, AB + "on a b: send |c > a;");
        Check.faulty(5, AB + "never |c b;");
        Check.faulty(5, AB + "never a |c;");
        Check.faulty(5, AB + "first |c;");
        Check.faulty(5, AB + "first |aa; state aa;");
        Check.faulty(5, "first |a; state a;");
        Check.faulty(6, AB + "on |b b: > a;");
        Check.faulty(6, AB + "on |m b: > a;");
        Check.faulty(6, AB + "on a |a: > a;");
        Check.faulty(6, AB + "on a b: > |b;");
        Check.faulty(6, AB + "on a b: > |m;");
        Check.faulty(6, AB + "on a b: send |a > a;");
        Check.faulty(6, AB + "on a b: send |b > a;");
        Check.faulty(6, AB + "never |b b;");
        Check.faulty(6, AB + "never |m b;");
        Check.faulty(6, AB + "never a |a;");
        Check.faulty(6, AB + "first |b;");
        Check.faulty(6, AB + "first |m;");
    }

    private static void pairs() {
        for (String told : new String[] {"on a %: > a; ", "never a %; "}) {
            for (String event : new String[] {"b", "m"}) {
                String before = AB + told.replace("%", event);
                Check.faulty(7, before + "on a |" + event + ": > a;");
                Check.faulty(7, before + "never a |" + event + ";");
                Check.faulty(7, before + "on a |" + event + " $");
            }
        }
        Check.sound(2, AB + "state c; on a b: > a; on c b: > a; never a m; never c m;");
    }

    private static void lowestNumberFirst() {
        Check.faulty(1, "|abcdefghijklm");
        Check.faulty(2, "ask a,b,c,d,e,f,g,h,|on;");
        Check.faulty(3, "ask a,b,c,d,e,f,g,h,|a;");
        Check.faulty(4, "state a, |a $");
        Check.faulty(1, "state a |$ state a;");
        Check.faulty(2, "state a; |; $ ");
    }

    private static void afterReading() {
        ProtocolText x = Check.reading(AB + "state z; first z; on a b: send m, take > z; never a m;");
        x.print();
        String page = Check.page(x);
        Check.feedText(x, "state q;");
        Check.due("the second read()", 0, () -> x.read());
        Check.same("what was printed before", page, Check.page(x));
        Check.same("what was read before is gone", "state q;\nfirst q;\n", Check.printed(x));
        Check.due("the first state too", 0, () -> x.count(8));
        Check.due("rules", 0, () -> x.count(4));
        Check.due("nevers", 0, () -> x.count(5));
        Check.feedText(x, AB + "on a b: > a; on a m: > a;");
        Check.due("the third read()", 2, () -> x.read());
        Check.due("no action is left from before", -1, () -> x.action(0, 0, 0));
        Check.feedText(x, "$");
        Check.due("a wrong read()", Check.ARGUMENT, () -> x.read());
        Check.due("fault(0)", 1, () -> x.fault(0));
        Check.due("fault(-1)", Check.INDEX, () -> x.fault(-1));
        Check.due("fault(2)", Check.INDEX, () -> x.fault(2));
        Check.due("fault(least)", Check.INDEX, () -> x.fault(Integer.MIN_VALUE));
        Check.due("read() of the empty text", 0, () -> x.read());
        Check.due("fault(0) is gone", 0, () -> x.fault(0));
        Check.nothingRead("behind the empty text", x);
    }
}
