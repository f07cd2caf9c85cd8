import java.util.Arrays;

/** Tables of how nodes keep lines alike, read from texts, looked at, printed again and drawn. */
public final class ProtocolText {
    public static final int NONE = -1;

    private static final int NEVER = -2;
    private static final int TAKE_CODE = 100;
    private static final int KEEP_CODE = 101;
    private static final int STATE_FACTOR = 100;

    private static final int TEXT_ROOM = 4096;
    private static final int FEED_BYTES = 16;

    // A drawing has at most 17 lines of 12 + 24 * 13 + 1 = 325 bytes, 5525 in all. A printing stays below that:
    // spaces and line ends add at most 3 * 384 + 64 bytes to the rules that fit into 4096, and 63 to the rest.
    private static final int PAGE_ROOM = 5632;

    private static final char LINE_END = '\n';
    private static final char BLANK = ' ';

    private final Bytes text;
    private final Bytes page;
    private final Names names;
    private final Table table;
    private final Parser parser;
    private final Printer printer;
    private final Drawer drawer;
    private int faultNumber;
    private int faultPlace;

    public ProtocolText() {
        text = new Bytes(new byte[TEXT_ROOM]);
        page = new Bytes(new byte[PAGE_ROOM]);
        names = new Names();
        table = new Table(names);
        parser = new Parser(new Lexer(text), names, table);
        printer = new Printer(page, names, table);
        drawer = new Drawer(page, names, table);
        faultNumber = 0;
        faultPlace = 0;
    }

    public int feed(int a, int b, int c, int d) throws IllegalStateException {
        if (text.length > TEXT_ROOM - FEED_BYTES) {
            throw new IllegalStateException("the text would be too long");
        }
        text.addInt(a);
        text.addInt(b);
        text.addInt(c);
        text.addInt(d);
        return text.length;
    }

    public int end(int n) throws IllegalArgumentException, IllegalStateException {
        if (n < 0 || n > FEED_BYTES) {
            throw new IllegalArgumentException("not 0 to 16 bytes");
        }
        if (text.length < FEED_BYTES) {
            throw new IllegalStateException("less than sixteen bytes");
        }
        text.length = text.length - FEED_BYTES + n;
        return text.length;
    }

    public int read() throws IllegalArgumentException {
        names.forget();
        table.forget();
        faultNumber = parser.firstFault();
        faultPlace = faultNumber == 0 ? 0 : parser.placeInText();
        text.length = 0;
        if (faultNumber != 0) {
            names.forget();
            table.forget();
            throw new IllegalArgumentException("the text has a fault");
        }
        table.settle();
        return table.rules;
    }

    public int fault(int what) throws IndexOutOfBoundsException {
        if (what != 0 && what != 1) {
            throw new IndexOutOfBoundsException("neither the fault nor its place");
        }
        return what == 0 ? faultNumber : faultPlace;
    }

    public int next(int state, int event) throws IndexOutOfBoundsException {
        int pair = table.pairOf(state, event);
        if (pair == NONE) {
            throw new IndexOutOfBoundsException("no such state or event");
        }
        return table.goals[pair];
    }

    public int action(int state, int event, int i) throws IndexOutOfBoundsException {
        int pair = table.pairOf(state, event);
        if (pair == NONE || i < 0) {
            throw new IndexOutOfBoundsException("no such state, event or action");
        }
        return table.actionOf(pair, i);
    }

    public int missing(int k) throws IndexOutOfBoundsException {
        int found = table.missingPair(k);
        if (found == NONE) {
            throw new IndexOutOfBoundsException("no such missing pair");
        }
        return found;
    }

    public int reached(int state, int what) throws IndexOutOfBoundsException {
        if (state < 0 || state >= names.states() || what < 0 || what > 1) {
            throw new IndexOutOfBoundsException("no such state or what");
        }
        if (what == 1) {
            return table.distances[state];
        }
        return table.isReached(state) ? 1 : 0;
    }

    public int message(int k) throws IndexOutOfBoundsException {
        if (k < 0 || k >= names.messages()) {
            throw new IndexOutOfBoundsException("no such message");
        }
        if (!table.isSent(k)) {
            return 0;
        }
        return table.isAwaited(k) ? 1 : 3;
    }

    public int print() {
        printer.printAll();
        return page.length;
    }

    public int draw() {
        drawer.drawAll();
        return page.length;
    }

    public int out(int i) throws IndexOutOfBoundsException {
        if (i < 0 || i >= page.length) {
            throw new IndexOutOfBoundsException("no such byte");
        }
        return page.bytes[i] & 255;
    }

    public int again() throws IllegalStateException {
        if (page.length > TEXT_ROOM) {
            throw new IllegalStateException("too long for a text");
        }
        System.arraycopy(page.bytes, 0, text.bytes, 0, page.length);
        text.length = page.length;
        return text.length;
    }

    public int count(int what) {
        switch (what) {
            case 0: return text.length;
            case 1: return names.states();
            case 2: return names.asks();
            case 3: return names.messages();
            case 4: return table.rules;
            case 5: return table.nevers;
            case 6: return table.missingPairs(false);
            case 7: return table.missingPairs(true);
            case 8: return table.first;
            case 9: return page.length;
            default: return NONE;
        }
    }

    /** Bytes one behind the other, in a row that is made once. */
    private static final class Bytes {
        final byte[] bytes;
        int length;

        Bytes(byte[] room) {
            bytes = room;
            length = 0;
        }

        void add(int value) {
            if (length < bytes.length) {
                bytes[length] = (byte) value;
                length++;
            }
        }

        void addInt(int value) {
            for (int shift = 24; shift >= 0; shift -= 8) {
                add(value >>> shift);
            }
        }

        void addText(String written) {
            for (int i = 0; i < written.length(); i++) {
                add(written.charAt(i));
            }
        }

        void addBlanks(int wanted) {
            for (int i = 0; i < wanted; i++) {
                add(BLANK);
            }
        }

        void dropBlanks() {
            while (length > 0 && bytes[length - 1] == BLANK) {
                length--;
            }
        }
    }

    /** The names told. A slot stands for a sort and a number of that sort, so a found slot tells both. */
    private static final class Names {
        static final int STATE = 0;
        static final int ASK = 1;
        static final int MESSAGE = 2;
        static final int SORTS = 3;
        static final int STATES_MAX = 16;
        static final int ASKS_MAX = 8;
        static final int MESSAGES_MAX = 16;
        static final int EVENTS_MAX = ASKS_MAX + MESSAGES_MAX;
        static final int FIRST_ASK = STATES_MAX;
        static final int FIRST_MESSAGE = STATES_MAX + ASKS_MAX;
        static final int SLOTS = STATES_MAX + EVENTS_MAX;
        static final int LETTERS_MAX = 12;

        private final byte[] letters = new byte[SLOTS * LETTERS_MAX];
        private final int[] lengths = new int[SLOTS];
        private final int[] told = new int[SORTS];

        void forget() {
            Arrays.fill(lengths, 0);
            Arrays.fill(told, 0);
        }

        int states() {
            return told[STATE];
        }

        int asks() {
            return told[ASK];
        }

        int messages() {
            return told[MESSAGE];
        }

        int events() {
            return told[ASK] + told[MESSAGE];
        }

        static int sortOf(int slot) {
            if (slot < FIRST_ASK) {
                return STATE;
            }
            return slot < FIRST_MESSAGE ? ASK : MESSAGE;
        }

        /** Asks keep their slots and messages theirs, though an ask told late moves the messages' event numbers. */
        int slotOfEvent(int event) {
            return event < told[ASK] ? FIRST_ASK + event : FIRST_MESSAGE + event - told[ASK];
        }

        int lengthOf(int slot) {
            return lengths[slot];
        }

        boolean isFull(int sort) {
            switch (sort) {
                case STATE: return told[STATE] >= STATES_MAX;
                case ASK: return told[ASK] >= ASKS_MAX;
                default: return told[MESSAGE] >= MESSAGES_MAX;
            }
        }

        /** Only behind isFull, which keeps the slot within its sort. */
        void tell(int sort, Lexer lexer) {
            int slot = slotBehindLast(sort);
            int length = lexer.at - lexer.start;
            for (int i = 0; i < length && i < LETTERS_MAX; i++) {
                letters[slot * LETTERS_MAX + i] = lexer.text.bytes[lexer.start + i];
            }
            lengths[slot] = length;
            told[sort]++;
        }

        private int slotBehindLast(int sort) {
            switch (sort) {
                case STATE: return told[STATE];
                case ASK: return FIRST_ASK + told[ASK];
                default: return FIRST_MESSAGE + told[MESSAGE];
            }
        }

        int slotOf(Lexer lexer) {
            for (int slot = 0; slot < SLOTS; slot++) {
                if (lengths[slot] == lexer.at - lexer.start && isSame(slot, lexer)) {
                    return slot;
                }
            }
            return NONE;
        }

        private boolean isSame(int slot, Lexer lexer) {
            for (int i = 0; i < lengths[slot]; i++) {
                if (letters[slot * LETTERS_MAX + i] != lexer.text.bytes[lexer.start + i]) {
                    return false;
                }
            }
            return true;
        }

        void write(int slot, Bytes page) {
            for (int i = 0; i < lengths[slot]; i++) {
                page.add(letters[slot * LETTERS_MAX + i]);
            }
        }
    }

    /** Goes through a text lexeme by lexeme; start, at and kind tell of the latest one. */
    private static final class Lexer {
        static final int END = 0;
        static final int WRONG = 1;
        static final int COLON = 2;
        static final int SEMICOLON = 3;
        static final int COMMA = 4;
        static final int ARROW = 5;
        static final int NAME = 6;
        static final int WORD_STATE = 7;
        static final int WORD_ASK = 8;
        static final int WORD_MESSAGE = 9;
        static final int WORD_ON = 10;
        static final int WORD_NEVER = 11;
        static final int WORD_FIRST = 12;
        static final int WORD_SEND = 13;
        static final int WORD_TAKE = 14;
        static final int WORD_KEEP = 15;

        final Bytes text;
        int start;
        int at;
        int kind;

        Lexer(Bytes text) {
            this.text = text;
        }

        void restart() {
            start = 0;
            at = 0;
            kind = END;
        }

        void advance() {
            skipWhite();
            start = at;
            if (at >= text.length) {
                kind = END;
            } else if (isLetter(text.bytes[at])) {
                skipName();
                kind = at - start > Names.LETTERS_MAX ? WRONG : nameKind();
            } else {
                kind = signKind(text.bytes[at]);
                at++;
            }
        }

        private void skipWhite() {
            boolean comment = false;
            while (at < text.length) {
                int b = text.bytes[at];
                if (b == LINE_END) {
                    comment = false;
                } else if (b == '#') {
                    comment = true;
                } else if (!comment && b != '\t' && b != '\r' && b != BLANK) {
                    return;
                }
                at++;
            }
        }

        private void skipName() {
            while (at < text.length && (isLetter(text.bytes[at]) || isDigit(text.bytes[at]))) {
                at++;
            }
        }

        private static boolean isLetter(int b) {
            return b >= 'a' && b <= 'z';
        }

        private static boolean isDigit(int b) {
            return b >= '0' && b <= '9';
        }

        private static int signKind(int b) {
            switch (b) {
                case ':': return COLON;
                case ';': return SEMICOLON;
                case ',': return COMMA;
                case '>': return ARROW;
                default: return WRONG;
            }
        }

        private int nameKind() {
            if (spells("state")) return WORD_STATE;
            if (spells("ask")) return WORD_ASK;
            if (spells("message")) return WORD_MESSAGE;
            if (spells("on")) return WORD_ON;
            if (spells("never")) return WORD_NEVER;
            if (spells("first")) return WORD_FIRST;
            if (spells("send")) return WORD_SEND;
            if (spells("take")) return WORD_TAKE;
            if (spells("keep")) return WORD_KEEP;
            return NAME;
        }

        private boolean spells(String word) {
            if (at - start != word.length()) {
                return false;
            }
            for (int i = 0; i < word.length(); i++) {
                if (text.bytes[start + i] != word.charAt(i)) {
                    return false;
                }
            }
            return true;
        }
    }

    /** What each pair of a state and an event's slot has, and which states the rules lead to. */
    private static final class Table {
        static final int PAIRS = Names.STATES_MAX * Names.EVENTS_MAX;
        static final int ACTIONS_MAX = 4;

        final int[] goals = new int[PAIRS];
        final int[] distances = new int[Names.STATES_MAX];
        int rules;
        int nevers;
        int first;
        private final Names names;
        private final int[] actions = new int[PAIRS * ACTIONS_MAX];

        Table(Names names) {
            this.names = names;
            forget();
        }

        void forget() {
            Arrays.fill(goals, NONE);
            Arrays.fill(actions, NONE);
            Arrays.fill(distances, NONE);
            rules = 0;
            nevers = 0;
            first = NONE;
        }

        static int pairOfSlots(int state, int eventSlot) {
            return state * Names.EVENTS_MAX + eventSlot - Names.FIRST_ASK;
        }

        int pairOf(int state, int event) {
            if (state < 0 || state >= names.states() || event < 0 || event >= names.events()) {
                return NONE;
            }
            return pairOfSlots(state, names.slotOfEvent(event));
        }

        int goalOf(int state, int event) {
            int pair = pairOf(state, event);
            return pair == NONE ? NONE : goals[pair];
        }

        int actionOf(int pair, int i) {
            return i < ACTIONS_MAX ? actions[pair * ACTIONS_MAX + i] : NONE;
        }

        void setAction(int pair, int i, int code) {
            actions[pair * ACTIONS_MAX + i] = code;
        }

        void setRule(int pair, int goal) {
            goals[pair] = goal;
            rules++;
        }

        void setNever(int pair) {
            goals[pair] = NEVER;
            nevers++;
        }

        /** What can only be known when the whole text has been read. */
        void settle() {
            if (first == NONE && names.states() > 0) {
                first = 0;
            }
            if (first != NONE) {
                distances[first] = 0;
            }
            for (int steps = 0; steps < names.states(); steps++) {
                for (int state = 0; state < names.states(); state++) {
                    if (distances[state] == steps) {
                        reachFrom(state, steps + 1);
                    }
                }
            }
        }

        private void reachFrom(int state, int steps) {
            for (int i = 0; i < Names.EVENTS_MAX; i++) {
                int goal = goals[state * Names.EVENTS_MAX + i];
                if (goal >= 0 && distances[goal] == NONE) {
                    distances[goal] = steps;
                }
            }
        }

        boolean isReached(int state) {
            return distances[state] != NONE;
        }

        boolean isSent(int message) {
            for (int state = 0; state < names.states(); state++) {
                if (isReached(state) && sends(state, message)) {
                    return true;
                }
            }
            return false;
        }

        private boolean sends(int state, int message) {
            int perState = Names.EVENTS_MAX * ACTIONS_MAX;
            for (int i = 0; i < perState; i++) {
                if (actions[state * perState + i] == message) {
                    return true;
                }
            }
            return false;
        }

        boolean isAwaited(int message) {
            for (int state = 0; state < names.states(); state++) {
                if (isReached(state) && goals[pairOfSlots(state, Names.FIRST_MESSAGE + message)] >= 0) {
                    return true;
                }
            }
            return false;
        }

        int missingPair(int k) {
            int before = 0;
            for (int state = 0; state < names.states(); state++) {
                for (int event = 0; event < names.events(); event++) {
                    if (goalOf(state, event) == NONE) {
                        if (before == k) {
                            return state * STATE_FACTOR + event;
                        }
                        before++;
                    }
                }
            }
            return NONE;
        }

        int missingPairs(boolean ofReachedOnly) {
            int found = 0;
            for (int state = 0; state < names.states(); state++) {
                if (!ofReachedOnly || isReached(state)) {
                    found += missingPairsOf(state);
                }
            }
            return found;
        }

        private int missingPairsOf(int state) {
            int found = 0;
            for (int event = 0; event < names.events(); event++) {
                if (goalOf(state, event) == NONE) {
                    found++;
                }
            }
            return found;
        }
    }

    /**
     * Takes one lexeme after the other, in a phase that says what fits. Every fault lies at the lexeme that shows it,
     * so a step answers only the fault's number, and looks for the numbers from the lowest up.
     */
    private static final class Parser {
        private static final int NO_FAULT = 0;
        private static final int WRONG_LEXEME = 1;
        private static final int DOES_NOT_FIT = 2;
        private static final int TOO_MANY = 3;
        private static final int TOLD_ALREADY = 4;
        private static final int NOT_TOLD = 5;
        private static final int OTHER_SORT = 6;
        private static final int PAIR_ALREADY = 7;

        private static final int AT_STATEMENT = 0;
        private static final int AT_NEW_NAME = 1;
        private static final int BEHIND_NEW_NAME = 2;
        private static final int AT_PAIR_STATE = 3;
        private static final int AT_PAIR_EVENT = 4;
        private static final int AT_COLON = 5;
        private static final int BEHIND_COLON = 6;
        private static final int AT_ACTION = 7;
        private static final int AT_SENT_MESSAGE = 8;
        private static final int BEHIND_ACTION = 9;
        private static final int AT_GOAL = 10;
        private static final int AT_FIRST_STATE = 11;
        private static final int AT_SEMICOLON = 12;

        private final Lexer lexer;
        private final Names names;
        private final Table table;
        private int phase;
        private int sort;
        private boolean never;
        private int slot;
        private int state;
        private int pair;
        private int actionsTold;

        Parser(Lexer lexer, Names names, Table table) {
            this.lexer = lexer;
            this.names = names;
            this.table = table;
        }

        int placeInText() {
            return lexer.start;
        }

        int firstFault() {
            lexer.restart();
            phase = AT_STATEMENT;
            // A lexeme has at least one byte, and the end comes behind the last one.
            for (int i = 0; i <= TEXT_ROOM; i++) {
                lexer.advance();
                int fault = lexer.kind == Lexer.WRONG ? WRONG_LEXEME : step();
                if (fault != NO_FAULT || lexer.kind == Lexer.END) {
                    return fault;
                }
            }
            return NO_FAULT;
        }

        private int step() {
            switch (phase) {
                case AT_STATEMENT: return beginStatement();
                case AT_NEW_NAME: return takeNewName();
                case BEHIND_NEW_NAME: return commaOr(AT_NEW_NAME, Lexer.SEMICOLON, AT_STATEMENT);
                case AT_PAIR_STATE: return takePairState();
                case AT_PAIR_EVENT: return takePairEvent();
                case AT_COLON: return want(Lexer.COLON, BEHIND_COLON);
                case BEHIND_COLON: return lexer.kind == Lexer.ARROW ? goOn(AT_GOAL) : beginAction();
                case AT_ACTION: return beginAction();
                case AT_SENT_MESSAGE: return takeSentMessage();
                case BEHIND_ACTION: return commaOr(AT_ACTION, Lexer.ARROW, AT_GOAL);
                case AT_GOAL: return takeGoal();
                case AT_FIRST_STATE: return takeFirstState();
                default: return want(Lexer.SEMICOLON, AT_STATEMENT);
            }
        }

        private int goOn(int nextPhase) {
            phase = nextPhase;
            return NO_FAULT;
        }

        private int want(int kind, int nextPhase) {
            return lexer.kind == kind ? goOn(nextPhase) : DOES_NOT_FIT;
        }

        private int commaOr(int commaPhase, int otherKind, int otherPhase) {
            return lexer.kind == Lexer.COMMA ? goOn(commaPhase) : want(otherKind, otherPhase);
        }

        private int beginStatement() {
            switch (lexer.kind) {
                case Lexer.WORD_STATE: return beginNames(Names.STATE);
                case Lexer.WORD_ASK: return beginNames(Names.ASK);
                case Lexer.WORD_MESSAGE: return beginNames(Names.MESSAGE);
                case Lexer.WORD_ON: return beginPair(false);
                case Lexer.WORD_NEVER: return beginPair(true);
                case Lexer.WORD_FIRST: return goOn(AT_FIRST_STATE);
                default: return want(Lexer.END, AT_STATEMENT);
            }
        }

        private int beginNames(int sortOfNames) {
            sort = sortOfNames;
            return goOn(AT_NEW_NAME);
        }

        private int beginPair(boolean isNever) {
            never = isNever;
            actionsTold = 0;
            return goOn(AT_PAIR_STATE);
        }

        private int takeNewName() {
            if (lexer.kind != Lexer.NAME) {
                return DOES_NOT_FIT;
            }
            if (names.isFull(sort)) {
                return TOO_MANY;
            }
            if (names.slotOf(lexer) != NONE) {
                return TOLD_ALREADY;
            }
            names.tell(sort, lexer);
            return goOn(BEHIND_NEW_NAME);
        }

        /** Two sorts may be wanted, for an event is an ask or a message. */
        private int findName(int wanted, int orWanted) {
            if (lexer.kind != Lexer.NAME) {
                return DOES_NOT_FIT;
            }
            slot = names.slotOf(lexer);
            if (slot == NONE) {
                return NOT_TOLD;
            }
            int found = Names.sortOf(slot);
            return found == wanted || found == orWanted ? NO_FAULT : OTHER_SORT;
        }

        private int takePairState() {
            int fault = findName(Names.STATE, Names.STATE);
            if (fault != NO_FAULT) {
                return fault;
            }
            state = slot;
            return goOn(AT_PAIR_EVENT);
        }

        private int takePairEvent() {
            int fault = findName(Names.ASK, Names.MESSAGE);
            if (fault != NO_FAULT) {
                return fault;
            }
            pair = Table.pairOfSlots(state, slot);
            if (table.goals[pair] != NONE) {
                return PAIR_ALREADY;
            }
            if (never) {
                table.setNever(pair);
                return goOn(AT_SEMICOLON);
            }
            return goOn(AT_COLON);
        }

        private int beginAction() {
            int kind = lexer.kind;
            if (kind != Lexer.WORD_SEND && kind != Lexer.WORD_TAKE && kind != Lexer.WORD_KEEP) {
                return DOES_NOT_FIT;
            }
            if (actionsTold >= Table.ACTIONS_MAX) {
                return TOO_MANY;
            }
            if (kind == Lexer.WORD_SEND) {
                return goOn(AT_SENT_MESSAGE);
            }
            return addAction(kind == Lexer.WORD_TAKE ? TAKE_CODE : KEEP_CODE);
        }

        private int takeSentMessage() {
            int fault = findName(Names.MESSAGE, Names.MESSAGE);
            return fault != NO_FAULT ? fault : addAction(slot - Names.FIRST_MESSAGE);
        }

        private int addAction(int code) {
            table.setAction(pair, actionsTold, code);
            actionsTold++;
            return goOn(BEHIND_ACTION);
        }

        private int takeGoal() {
            int fault = findName(Names.STATE, Names.STATE);
            if (fault != NO_FAULT) {
                return fault;
            }
            table.setRule(pair, slot);
            return goOn(AT_SEMICOLON);
        }

        private int takeFirstState() {
            int fault = findName(Names.STATE, Names.STATE);
            if (fault != NO_FAULT) {
                return fault;
            }
            table.first = slot;
            return goOn(AT_SEMICOLON);
        }
    }

    /** Writes what was read as a text that reads the same. */
    private static final class Printer {
        private final Bytes page;
        private final Names names;
        private final Table table;

        Printer(Bytes page, Names names, Table table) {
            this.page = page;
            this.names = names;
            this.table = table;
        }

        void printAll() {
            page.length = 0;
            printNames("state ", 0, names.states());
            printNames("ask ", Names.FIRST_ASK, names.asks());
            printNames("message ", Names.FIRST_MESSAGE, names.messages());
            if (table.first != NONE) {
                page.addText("first ");
                names.write(table.first, page);
                endLine();
            }
            for (int state = 0; state < names.states(); state++) {
                for (int event = 0; event < names.events(); event++) {
                    printPair(state, event);
                }
            }
        }

        private void endLine() {
            page.add(';');
            page.add(LINE_END);
        }

        private void printNames(String word, int firstSlot, int wanted) {
            if (wanted == 0) {
                return;
            }
            page.addText(word);
            for (int i = 0; i < wanted; i++) {
                if (i > 0) {
                    page.addText(", ");
                }
                names.write(firstSlot + i, page);
            }
            endLine();
        }

        private void printPair(int state, int event) {
            int pair = table.pairOf(state, event);
            int goal = table.goalOf(state, event);
            if (pair == NONE || goal == NONE) {
                return;
            }
            page.addText(goal == NEVER ? "never " : "on ");
            names.write(state, page);
            page.add(BLANK);
            names.write(names.slotOfEvent(event), page);
            if (goal != NEVER) {
                page.add(':');
                printActions(pair);
                page.addText(" > ");
                names.write(goal, page);
            }
            endLine();
        }

        private void printActions(int pair) {
            for (int i = 0; i < Table.ACTIONS_MAX && table.actionOf(pair, i) != NONE; i++) {
                page.addText(i > 0 ? ", " : " ");
                printAction(table.actionOf(pair, i));
            }
        }

        private void printAction(int code) {
            if (code == TAKE_CODE) {
                page.addText("take");
            } else if (code == KEEP_CODE) {
                page.addText("keep");
            } else {
                page.addText("send ");
                names.write(Names.FIRST_MESSAGE + code, page);
            }
        }
    }

    /** Writes what was read as a table: a line for each state, a column for each event. */
    private static final class Drawer {
        private final Bytes page;
        private final Names names;
        private final Table table;
        private final int[] widths = new int[Names.EVENTS_MAX];
        private int firstWidth;

        Drawer(Bytes page, Names names, Table table) {
            this.page = page;
            this.names = names;
            this.table = table;
        }

        void drawAll() {
            page.length = 0;
            measure();
            drawHead();
            for (int state = 0; state < names.states(); state++) {
                drawState(state);
            }
        }

        private void measure() {
            firstWidth = 0;
            for (int state = 0; state < names.states(); state++) {
                firstWidth = Math.max(firstWidth, names.lengthOf(state));
            }
            for (int event = 0; event < names.events(); event++) {
                widths[event] = widthOf(event);
            }
        }

        private int widthOf(int event) {
            int width = Math.max(1, names.lengthOf(names.slotOfEvent(event)));
            for (int state = 0; state < names.states(); state++) {
                int goal = table.goalOf(state, event);
                if (goal >= 0) {
                    width = Math.max(width, names.lengthOf(goal));
                }
            }
            return width;
        }

        private void drawHead() {
            page.addBlanks(firstWidth);
            for (int event = 0; event < names.events(); event++) {
                page.add(BLANK);
                drawName(names.slotOfEvent(event), widths[event]);
            }
            endLine();
        }

        private void drawState(int state) {
            drawName(state, firstWidth);
            for (int event = 0; event < names.events(); event++) {
                page.add(BLANK);
                drawGoal(table.goalOf(state, event), widths[event]);
            }
            endLine();
        }

        private void drawGoal(int goal, int width) {
            if (goal >= 0) {
                drawName(goal, width);
            } else {
                page.add(goal == NEVER ? '-' : '?');
                page.addBlanks(width - 1);
            }
        }

        private void drawName(int slot, int width) {
            names.write(slot, page);
            page.addBlanks(width - names.lengthOf(slot));
        }

        /** The last column is filled up like the others, so its blanks go here. */
        private void endLine() {
            page.dropBlanks();
            page.add(LINE_END);
        }
    }
}
