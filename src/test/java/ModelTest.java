import java.nio.charset.StandardCharsets;
import java.util.ArrayList;
import java.util.List;
import java.util.Map;
import java.util.Random;

/** Random texts, sound and faulty ones, read by the class and by the model; every answer is compared. */
public final class ModelTest {
    private static final String[] PIECES = {"state", "ask", "message", "on", "never", "first", "send", "take", "keep",
        ":", ";", ",", ">", "a", "b", "c", "a1", "ab", "abcdefghijkl", "abcdefghijklm", "$", "1", "A", "#x\n", "# ",
        " ", "\t", "\r", "\n", "\u00ff", "on a b: > a;", "state a, b;", "ask c;", "message ab;", "never a c;"};
    private static final Random RANDOM = new Random(20261115);
    private static final int[] FAULTS = new int[8];

    public static void main(String[] args) {
        ProtocolText used = new ProtocolText();
        for (int round = 0; round < 12000; round++) {
            String text = round % 3 == 0 ? pieces() : sound();
            if (round % 3 == 2) {
                text = damaged(text);
            }
            if (text.length() <= 4096) {
                ProtocolText x = round % 5 == 0 ? new ProtocolText() : used;
                Check.feedText(x, text);
                compare(text, x);
            }
        }
        for (int fault = 0; fault < FAULTS.length; fault++) {
            Check.same("texts with fault " + fault + " were met often", "true", "" + (FAULTS[fault] > 20));
        }
        anyCalls();
        Check.finish();
    }

    private static int below(int bound) {
        return RANDOM.nextInt(bound);
    }

    private static String pieces() {
        StringBuilder text = new StringBuilder();
        for (int left = below(30); left >= 0; left--) {
            text.append(PIECES[below(PIECES.length)]).append(below(4) == 0 ? "" : " ");
        }
        return text.toString();
    }

    private static String space() {
        switch (below(8)) {
            case 0: return "\n";
            case 1: return "\t";
            case 2: return "# any; thing $\n";
            case 3: return " \r\n ";
            default: return " ";
        }
    }

    private static String perhaps() {
        return below(2) == 0 ? "" : space();
    }

    private static String newName(List<String> taken) {
        for (int i = 0; i < 1000; i++) {
            StringBuilder name = new StringBuilder();
            name.append((char) ('a' + below(26)));
            for (int left = below(4) == 0 ? below(12) : below(3); left > 0; left--) {
                name.append(below(3) == 0 ? (char) ('0' + below(10)) : (char) ('a' + below(26)));
            }
            String made = name.toString();
            if (!taken.contains(made) && !made.equals("on")) {
                taken.add(made);
                return made;
            }
        }
        throw new IllegalStateException("no name left");
    }

    private static String any(List<String> names) {
        return names.get(below(names.size()));
    }

    /** A text that tells names between rules, mostly without a fault: now and then there is one too many, or a wrong sort. */
    private static String sound() {
        List<String> taken = new ArrayList<>(List.of("state", "ask", "message", "on", "never", "first", "send", "take", "keep"));
        List<List<String>> sorts = List.of(new ArrayList<>(), new ArrayList<>(), new ArrayList<>());
        List<String> pairs = new ArrayList<>();
        StringBuilder text = new StringBuilder();
        int statements = below(60);
        for (int i = 0; i < statements; i++) {
            text.append(perhaps());
            if (below(4) == 0 || i < 4) {
                tell(text, taken, sorts, below(3));
            } else if (!sorts.get(0).isEmpty() && below(15) == 0) {
                text.append("first").append(space()).append(any(sorts.get(0)));
                text.append(perhaps()).append(";");
            } else if (!sorts.get(0).isEmpty() && sorts.get(1).size() + sorts.get(2).size() > 0) {
                pair(text, sorts, pairs);
            }
        }
        return text.append(perhaps()).toString();
    }

    private static void tell(StringBuilder text, List<String> taken, List<List<String>> sorts, int sort) {
        int room = (sort == 1 ? 8 : 16) - sorts.get(sort).size();
        int wanted = Math.min(below(6) == 0 ? 3 : room, 1 + below(3));
        for (int i = 0; i < wanted; i++) {
            String name = newName(taken);
            sorts.get(sort).add(name);
            text.append(i == 0 ? List.of("state", "ask", "message").get(sort) + space() : "," + perhaps());
            text.append(name).append(perhaps()).append(i == wanted - 1 ? ";" : "");
        }
    }

    private static void pair(StringBuilder text, List<List<String>> sorts, List<String> pairs) {
        List<String> events = new ArrayList<>(sorts.get(1));
        events.addAll(sorts.get(2));
        String pair = any(sorts.get(0)) + space() + any(events);
        if (pairs.contains(pair.replaceAll("\\s.*\\s|\\s", " ")) && below(20) != 0) {
            return;
        }
        pairs.add(pair.replaceAll("\\s.*\\s|\\s", " "));
        if (below(4) == 0) {
            text.append("never").append(space()).append(pair).append(perhaps()).append(";");
            return;
        }
        text.append("on").append(space()).append(pair).append(perhaps()).append(":");
        for (int i = below(80) == 0 ? 5 : below(5); i > 0; i--) {
            boolean sends = !sorts.get(2).isEmpty() && below(2) == 0;
            String plain = below(2) == 0 ? "take" : "keep";
            text.append(perhaps()).append(sends ? "send" + space() + any(sorts.get(2)) : plain);
            text.append(perhaps()).append(i == 1 ? "" : ",");
        }
        text.append(perhaps()).append(">").append(perhaps()).append(any(below(80) == 0 ? events : sorts.get(0))).append(perhaps()).append(";");
    }

    private static String damaged(String text) {
        int at = below(text.length() + 1);
        int to = Math.min(text.length(), at + below(6));
        switch (below(4)) {
            case 0: return text.substring(0, at);
            case 1: return text.substring(0, at) + text.substring(to);
            case 2: return text.substring(0, at) + PIECES[below(PIECES.length)] + text.substring(to);
            default: return text + text.substring(at);
        }
    }

    private static void compare(String text, ProtocolText x) {
        Model model;
        try {
            model = new Model(text);
        } catch (Model.Fault fault) {
            FAULTS[fault.number]++;
            Check.due("read() of " + text, Check.ARGUMENT, () -> x.read());
            Check.due("fault(0) of " + text, fault.number, () -> x.fault(0));
            Check.due("fault(1) of " + text, fault.place, () -> x.fault(1));
            Check.due("count(0) behind " + text, 0, () -> x.count(0));
            Check.due("count(1) behind " + text, 0, () -> x.count(1));
            Check.due("count(4) behind " + text, 0, () -> x.count(4));
            return;
        }
        FAULTS[0]++;
        Model sound = model;
        Check.due("read() of " + text, sound.rules(), () -> x.read());
        Check.due("fault(0) of " + text, 0, () -> x.fault(0));
        compareTable(text, sound, x);
        compareCounts(text, sound, x);
        Check.same("drawn " + text, sound.drawn(), Check.drawn(x));
        Check.same("printed " + text, sound.printed(), Check.printed(x));
        if (x.count(9) <= 4096) {
            x.again();
            Check.due("read() again of " + text, sound.rules(), () -> x.read());
            compareTable(text, sound, x);
            Check.same("printed again " + text, sound.printed(), Check.printed(x));
        }
    }

    private static void compareTable(String text, Model model, ProtocolText x) {
        Map<String, Integer> distances = model.distances();
        List<String> events = model.events();
        for (int s = 0; s < model.states.size(); s++) {
            int state = s;
            String name = model.states.get(s);
            Check.due("reached(" + s + ", 0) of " + text, distances.containsKey(name) ? 1 : 0, () -> x.reached(state, 0));
            Check.due("reached(" + s + ", 1) of " + text, distances.getOrDefault(name, -1), () -> x.reached(state, 1));
            for (int e = 0; e < events.size(); e++) {
                comparePair(text, model, x, s, e);
            }
        }
        for (int k = 0; k < model.messages.size(); k++) {
            int asked = k;
            Check.due("message(" + k + ") of " + text, model.messageMark(model.messages.get(k)), () -> x.message(asked));
        }
    }

    private static void comparePair(String text, Model model, ProtocolText x, int state, int event) {
        String where = "(" + state + ", " + event + ") of " + text;
        String goal = model.goal(model.states.get(state), model.events().get(event));
        int due = goal.equals("?") ? -1 : goal.equals("-") ? -2 : model.states.indexOf(goal);
        Check.due("next" + where, due, () -> x.next(state, event));
        List<String> actions =
            model.actions.getOrDefault(model.states.get(state) + " " + model.events().get(event), List.of());
        for (int i = 0; i < 6; i++) {
            int asked = i;
            Check.due("action " + i + where, i < actions.size() ? code(model, actions.get(i)) : -1,
                () -> x.action(state, event, asked));
        }
    }

    private static int code(Model model, String action) {
        if (action.startsWith("send ")) {
            return model.messages.indexOf(action.substring(5));
        }
        return action.equals("take") ? 100 : 101;
    }

    private static void compareCounts(String text, Model model, ProtocolText x) {
        List<Integer> missing = model.missing(false);
        int[] due = {0, model.states.size(), model.asks.size(), model.messages.size(), model.rules(), model.nevers(),
            missing.size(), model.missing(true).size(), model.firstState()};
        for (int what = 0; what < due.length; what++) {
            int asked = what;
            Check.due("count(" + what + ") of " + text, due[what], () -> x.count(asked));
        }
        for (int k = 0; k < missing.size(); k++) {
            int asked = k;
            Check.due("missing(" + k + ") of " + text, missing.get(k), () -> x.missing(asked));
        }
        Check.due("missing behind the last of " + text, Check.INDEX, () -> x.missing(missing.size()));
    }

    /** Whatever is called with whatever arguments, only the document's exceptions come. */
    private static void anyCalls() {
        for (int run = 0; run < 400; run++) {
            ProtocolText x = new ProtocolText();
            for (int call = 0; call < 512; call++) {
                anyCall(x, below(15));
            }
        }
    }

    private static int number() {
        return below(4) == 0 ? RANDOM.nextInt() : below(30) - 3;
    }

    private static void anyCall(ProtocolText x, int which) {
        int a = number();
        int b = number();
        int c = number();
        String index = "-?\\d+|" + Check.INDEX;
        switch (which) {
            case 0 -> allowed("feed", "-?\\d+|" + Check.STATE, Check.answer(() -> x.feed(a, b, c, a)));
            case 1 -> allowed("end", "\\d+|" + Check.ARGUMENT + "|" + Check.STATE, Check.answer(() -> x.end(a)));
            case 2 -> allowed("read", "\\d+|" + Check.ARGUMENT, Check.answer(() -> x.read()));
            case 3 -> allowed("fault", index, Check.answer(() -> x.fault(a)));
            case 4 -> allowed("next", index, Check.answer(() -> x.next(a, b)));
            case 5 -> allowed("action", index, Check.answer(() -> x.action(a, b, c)));
            case 6 -> allowed("missing", index, Check.answer(() -> x.missing(a)));
            case 7 -> allowed("reached", index, Check.answer(() -> x.reached(a, b)));
            case 8 -> allowed("message", index, Check.answer(() -> x.message(a)));
            case 9 -> allowed("print", "\\d+", Check.answer(() -> x.print()));
            case 10 -> allowed("draw", "\\d+", Check.answer(() -> x.draw()));
            case 11 -> allowed("out", index, Check.answer(() -> x.out(a)));
            case 12 -> allowed("again", "\\d+|" + Check.STATE, Check.answer(() -> x.again()));
            case 13 -> allowed("count", "-?\\d+", Check.answer(() -> x.count(a)));
            default -> feedSome(x);
        }
    }

    private static void allowed(String call, String pattern, String answer) {
        Check.same(call + " answered " + answer, "true", "" + answer.matches(pattern));
    }

    private static void feedSome(ProtocolText x) {
        byte[] bytes = sound().getBytes(StandardCharsets.ISO_8859_1);
        if (x.count(0) == 0 && bytes.length <= 4096) {
            Check.feedBytes(x, bytes);
            Check.answer(() -> x.read());
        }
    }
}
