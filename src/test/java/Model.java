import java.util.ArrayList;
import java.util.HashMap;
import java.util.List;
import java.util.Map;
import java.util.Set;
import java.util.regex.Matcher;
import java.util.regex.Pattern;

/**
 * The document once more, as plainly as the Java library allows: lexemes by a regular expression, a parser that goes
 * down the grammar, maps by names. It shares nothing with the class, so that a slip in one shows against the other.
 */
final class Model {
    static final class Fault extends RuntimeException {
        private static final long serialVersionUID = 1L;
        final int number;
        final int place;

        Fault(int number, int place) {
            this.number = number;
            this.place = place;
        }
    }

    private static final Set<String> WORDS =
        Set.of("state", "ask", "message", "on", "never", "first", "send", "take", "keep");
    private static final Pattern WHITE = Pattern.compile("(?:[\\t\\n\\r ]|#[^\\n]*)*");
    private static final Pattern LEXEME = Pattern.compile("[a-z][a-z0-9]*|[:;,>]");

    final List<String> states = new ArrayList<>();
    final List<String> asks = new ArrayList<>();
    final List<String> messages = new ArrayList<>();
    final Map<String, String> goals = new HashMap<>();
    final Map<String, List<String>> actions = new HashMap<>();
    private String first = null;
    private final String text;
    private int at = 0;
    private int start = 0;

    /** Throws the Fault that the text has. */
    Model(String text) {
        this.text = text;
        for (String word = take(); word != null; word = take()) {
            statement(word);
        }
        if (first == null && !states.isEmpty()) {
            first = states.get(0);
        }
    }

    private String take() {
        Matcher white = WHITE.matcher(text).region(at, text.length());
        at = white.lookingAt() ? white.end() : at;
        start = at;
        if (at == text.length()) {
            return null;
        }
        Matcher lexeme = LEXEME.matcher(text).region(at, text.length());
        if (!lexeme.lookingAt() || lexeme.group().length() > 12) {
            throw new Fault(1, start);
        }
        at = lexeme.end();
        return lexeme.group();
    }

    private void refuseIf(boolean wrong, int number) {
        if (wrong) {
            throw new Fault(number, start);
        }
    }

    private void statement(String word) {
        switch (word) {
            case "state" -> tell(states, 16);
            case "ask" -> tell(asks, 8);
            case "message" -> tell(messages, 16);
            case "on" -> rule(pair());
            case "never" -> {
                goals.put(pair(), "-");
                sign(";");
            }
            case "first" -> {
                first = known(states);
                sign(";");
            }
            default -> throw new Fault(2, start);
        }
    }

    private String sign(String... fitting) {
        String got = take();
        refuseIf(got == null || !List.of(fitting).contains(got), 2);
        return got;
    }

    private String name() {
        String got = take();
        refuseIf(got == null || WORDS.contains(got) || !Character.isLetter(got.charAt(0)), 2);
        return got;
    }

    private void tell(List<String> sort, int most) {
        do {
            String name = name();
            refuseIf(sort.size() == most, 3);
            refuseIf(isTold(name), 4);
            sort.add(name);
        } while (sign(",", ";").equals(","));
    }

    private boolean isTold(String name) {
        return states.contains(name) || asks.contains(name) || messages.contains(name);
    }

    private String known(List<String> wanted) {
        String name = name();
        refuseIf(!isTold(name), 5);
        refuseIf(!wanted.contains(name), 6);
        return name;
    }

    private String pair() {
        String state = known(states);
        String pair = state + " " + known(events());
        refuseIf(goals.containsKey(pair), 7);
        return pair;
    }

    private void rule(String pair) {
        List<String> done = new ArrayList<>();
        sign(":");
        String got = sign(">", "send", "take", "keep");
        while (!got.equals(">")) {
            refuseIf(done.size() == 4, 3);
            done.add(got.equals("send") ? "send " + known(messages) : got);
            got = sign(",", ">");
            if (got.equals(",")) {
                got = sign("send", "take", "keep");
            }
        }
        goals.put(pair, known(states));
        actions.put(pair, done);
        sign(";");
    }

    List<String> events() {
        List<String> events = new ArrayList<>(asks);
        events.addAll(messages);
        return events;
    }

    String goal(String state, String event) {
        return goals.getOrDefault(state + " " + event, "?");
    }

    boolean isRule(String state, String event) {
        return actions.containsKey(state + " " + event);
    }

    int rules() {
        return actions.size();
    }

    int nevers() {
        return goals.size() - actions.size();
    }

    int firstState() {
        return states.indexOf(first);
    }

    /** How few rules lead to each reached state, found by going round until nothing changes. */
    Map<String, Integer> distances() {
        Map<String, Integer> found = new HashMap<>();
        if (first != null) {
            found.put(first, 0);
        }
        for (boolean changed = true; changed; ) {
            changed = false;
            for (String state : states) {
                for (String event : events()) {
                    if (found.containsKey(state) && isRule(state, event)) {
                        int steps = found.get(state) + 1;
                        String goal = goal(state, event);
                        if (found.getOrDefault(goal, 99) > steps) {
                            found.put(goal, steps);
                            changed = true;
                        }
                    }
                }
            }
        }
        return found;
    }

    int messageMark(String message) {
        boolean sent = false;
        boolean awaited = false;
        for (String state : distances().keySet()) {
            awaited |= isRule(state, message);
            for (String event : events()) {
                sent |= isRule(state, event) && actions.get(state + " " + event).contains("send " + message);
            }
        }
        return sent ? awaited ? 1 : 3 : 0;
    }

    List<Integer> missing(boolean reachedOnly) {
        List<Integer> found = new ArrayList<>();
        for (String state : states) {
            for (String event : events()) {
                if (goal(state, event).equals("?") && (!reachedOnly || distances().containsKey(state))) {
                    found.add(states.indexOf(state) * 100 + events().indexOf(event));
                }
            }
        }
        return found;
    }

    String printed() {
        StringBuilder lines = new StringBuilder();
        lines.append(states.isEmpty() ? "" : "state " + String.join(", ", states) + ";\n");
        lines.append(asks.isEmpty() ? "" : "ask " + String.join(", ", asks) + ";\n");
        lines.append(messages.isEmpty() ? "" : "message " + String.join(", ", messages) + ";\n");
        lines.append(first == null ? "" : "first " + first + ";\n");
        for (String state : states) {
            for (String event : events()) {
                String pair = state + " " + event;
                if (isRule(state, event)) {
                    String done = String.join(", ", actions.get(pair));
                    lines.append("on ").append(pair).append(done.isEmpty() ? ":" : ": ").append(done);
                    lines.append(" > ").append(goals.get(pair)).append(";\n");
                } else if (goals.containsKey(pair)) {
                    lines.append("never ").append(pair).append(";\n");
                }
            }
        }
        return lines.toString();
    }

    String drawn() {
        List<List<String>> columns = new ArrayList<>();
        List<String> left = new ArrayList<>(states);
        left.add(0, "");
        columns.add(left);
        for (String event : events()) {
            List<String> column = new ArrayList<>(List.of(event));
            for (String state : states) {
                column.add(goal(state, event));
            }
            columns.add(column);
        }
        StringBuilder lines = new StringBuilder();
        for (int row = 0; row <= states.size(); row++) {
            StringBuilder line = new StringBuilder();
            for (List<String> column : columns) {
                int width = column.stream().mapToInt(String::length).max().orElse(0);
                String cell = column.get(row);
                line.append(line.length() == 0 && column == left ? "" : " ").append(cell).append(" ".repeat(width - cell.length()));
            }
            lines.append(line.toString().replaceAll(" +$", "")).append("\n");
        }
        return lines.toString();
    }
}
