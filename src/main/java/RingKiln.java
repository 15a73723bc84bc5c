/**
 * A ring kiln: chambers in a ring round which one fire is led. The words in capitals in the
 * comments are those of the document.
 */
public final class RingKiln {
    public static final int NONE = -1;

    /** There is none such, or, where NONE is an answer like others, the call is without what it needs. */
    private static final int NO_ANSWER = -2;
    /** The call is without what it needs, where NONE and -2 are answers. */
    private static final int NO_QUESTION = -3;

    private static final int MOST_BYTES = 400;
    private static final int MOST_CLAUSES = 40;
    private static final int MOST_RULE_CLAUSES = 12;
    private static final int MOST_CHAMBERS = 9;
    private static final int MOST_CLAYS = 3;
    private static final int MOST_ORDERS = 4;
    private static final int MOST_RULES = 6;
    private static final int MOST_NOTES = 10;
    private static final int MOST_IMAGES = 4;
    private static final int MOST_UNDONE = 20;
    private static final int MOST_DEPTH = 10;
    private static final int MOST_PARTS = 60;

    private static final int MOST_WET = 30;
    private static final int LEAST_NEEDS = 1;
    private static final int MOST_NEEDS = 60;
    private static final int LAST_DAY = 999;
    private static final int LAST_NOTED_DAY = 60;
    private static final int MOST_AHEAD = 100;
    private static final int MOST_COAL = 999;
    private static final int MOST_WARM = 99;
    private static final int MOST_KEPT = 99;
    private static final int COOL = 20;

    private static final int EMPTY = 0;
    private static final int RAW = 1;
    private static final int GOOD = 2;
    private static final int CLINKER = 3;

    private final Tape tape;
    private final KilnReader kilnReader;
    private final RuleBook book;
    private final RuleReader ruleReader;
    private final Course course;
    private final Works now;
    private final Works[] images;
    private final boolean[] imageMade;
    private final Foresight foresight;
    private final Hindsight hindsight;

    public RingKiln() {
        tape = new Tape();
        kilnReader = new KilnReader(tape);
        book = new RuleBook();
        ruleReader = new RuleReader(tape, book);
        course = new Course(book);
        now = new Works();
        images = new Works[MOST_IMAGES];
        imageMade = new boolean[MOST_IMAGES];
        for (int k = 0; k < MOST_IMAGES; k++) {
            images[k] = new Works();
        }
        foresight = new Foresight(now, course);
        hindsight = new Hindsight(now, course);
    }

    public int feed(int a, int b, int c, int d, int e) {
        if (tape.length + 20 > MOST_BYTES) {
            return NONE;
        }
        tape.put(a);
        tape.put(b);
        tape.put(c);
        tape.put(d);
        tape.put(e);
        return tape.length;
    }

    public int end(int n) {
        if (n < 0 || n > tape.length) {
            return NONE;
        }
        tape.length = n;
        return n;
    }

    public int kiln() {
        int fault = kilnReader.read();
        tape.length = 0;
        if (fault != 0) {
            return -2 - fault;
        }
        now.startAs(kilnReader.told);
        return now.told.clays;
    }

    public int rule() {
        if (book.rules >= MOST_RULES) {
            return NONE;
        }
        int fault = ruleReader.read();
        tape.length = 0;
        if (fault != 0) {
            return -2 - fault;
        }
        book.rules++;
        return book.rules - 1;
    }

    public int force(int rule) {
        if (rule < NONE || rule >= book.rules) {
            return NO_ANSWER;
        }
        int was = now.ruleInForce;
        now.ruleInForce = rule;
        return was;
    }

    public int chamber(int chamber, int what) {
        if (!now.hasChamber(chamber)) {
            return NO_ANSWER;
        }
        int[] cells = now.state.cells;
        switch (what) {
            case 0:
                return cells[State.CLAY + chamber];
            case 1:
                return cells[State.WET + chamber];
            case 2:
                return cells[State.BURNT + chamber];
            case 3:
                return cells[State.WARM + chamber];
            case 4:
                return now.state.kindOf(now.told, chamber);
            default:
                return NO_ANSWER;
        }
    }

    public int clay(int clay, int what) {
        if (!now.hasClay(clay)) {
            return NONE;
        }
        switch (what) {
            case 0:
                return now.told.clayWet[clay];
            case 1:
                return now.told.clayNeeds[clay];
            case 2:
                return now.state.cells[State.STORE + clay];
            default:
                return NONE;
        }
    }

    public int order(int order, int what) {
        if (!now.hasOrder(order)) {
            return NO_ANSWER;
        }
        switch (what) {
            case 0:
                return now.told.orderClay[order];
            case 1:
                return now.told.orderMany[order];
            case 2:
                return now.told.orderDue[order];
            case 3:
                return now.state.cells[State.SENT + order];
            default:
                return NO_ANSWER;
        }
    }

    public int day() {
        if (!now.isBuilt() || now.state.cells[State.DAY] >= LAST_DAY) {
            return NONE;
        }
        now.remember();
        return course.pass(now.state, now.told, now.ruleInForce);
    }

    public int set(int chamber, int clay) {
        if (!now.hasEmptyChamber(chamber) || !now.isCool(chamber) || !now.hasClay(clay)) {
            return NONE;
        }
        now.remember();
        now.state.fill(now.told, chamber, clay);
        return now.state.cells[State.WET + chamber];
    }

    public int draw(int chamber) {
        if (!now.hasSetChamber(chamber) || !now.isCool(chamber)
                || now.state.cells[State.FIRE] == chamber) {
            return NONE;
        }
        now.remember();
        int kind = now.state.kindOf(now.told, chamber);
        now.state.drawFrom(chamber, kind);
        return kind;
    }

    public int light(int chamber) {
        int[] cells = now.state.cells;
        if (!now.hasSetChamber(chamber) || cells[State.FIRE] != NONE) {
            return NONE;
        }
        now.remember();
        cells[State.FIRE] = chamber;
        now.state.heat(chamber, 30);
        return cells[State.WARM + chamber];
    }

    public int buy(int coal) {
        if (!now.isBuilt() || coal < 1 || coal > 99) {
            return NONE;
        }
        now.remember();
        int[] cells = now.state.cells;
        cells[State.COAL] = Math.min(MOST_COAL, cells[State.COAL] + coal);
        return cells[State.COAL];
    }

    public int send(int order) {
        if (!now.hasOrder(order) || !now.canSend(order)) {
            return NONE;
        }
        now.remember();
        int[] cells = now.state.cells;
        int store = State.STORE + now.told.orderClay[order];
        cells[store] -= now.told.orderMany[order];
        cells[State.SENT + order] = cells[State.DAY];
        return cells[store];
    }

    public int undo() {
        if (now.pastCount == 0) {
            return NO_ANSWER;
        }
        now.forgetLast();
        return now.pastCount;
    }

    public int ahead(int chamber, int n, int what) {
        boolean chamberless = what == 3 || what == 4;
        if (!now.isBuilt() || n < 0 || n > MOST_AHEAD
                || !chamberless && !now.hasChamber(chamber)) {
            return NO_ANSWER;
        }
        switch (what) {
            case 0:
                return foresight.stateAfter(n).cells[State.WARM + chamber];
            case 1:
                return foresight.stateAfter(n).cells[State.WET + chamber];
            case 2:
                return foresight.stateAfter(n).cells[State.BURNT + chamber];
            case 3:
                return foresight.stateAfter(n).cells[State.FIRE];
            case 4:
                return foresight.stateAfter(n).cells[State.COAL];
            default:
                return NO_ANSWER;
        }
    }

    public int out() {
        return now.isBuilt() ? foresight.firstDay(Foresight.IS_OUT, 0) : NONE;
    }

    public int comes(int chamber) {
        return now.hasChamber(chamber) ? foresight.firstDay(Foresight.COMES, chamber) : NONE;
    }

    public int ripe(int chamber) {
        return now.hasSetChamber(chamber) ? foresight.firstDay(Foresight.IS_RIPE, chamber) : NONE;
    }

    public int spoilt(int chamber) {
        return now.hasSetChamber(chamber) ? foresight.firstDay(Foresight.IS_SPOILT, chamber) : NONE;
    }

    public int cold(int chamber) {
        return now.hasChamber(chamber) ? foresight.firstDay(Foresight.IS_COLD, chamber) : NONE;
    }

    public int goods(int n) {
        if (!now.isBuilt() || n < 0 || n > MOST_AHEAD) {
            return NONE;
        }
        return foresight.stateAfter(n).goodBits(now.told);
    }

    public int row(int chamber, int n, int what) {
        if (!now.hasSetChamber(chamber) || n < 1 || n > RowSearch.MOST_DAYS
                || what < 0 || what > RowSearch.MOST_DAYS) {
            return NO_QUESTION;
        }
        return foresight.rowSearch.answer(chamber, n, what);
    }

    public int plan(int chamber, int n, int what) {
        if (!now.hasEmptyChamber(chamber) || n < 1 || n > 40 || what < 0 || what > 1) {
            return NO_ANSWER;
        }
        return foresight.bestClay(chamber, n, what);
    }

    public int meet(int what) {
        if (!now.isBuilt() || what < 0 || what > 1) {
            return NONE;
        }
        int best = now.bestOrders();
        return what == 0 ? now.manyOf(best) : best;
    }

    public int late() {
        return now.isBuilt() ? now.lateBits() : NONE;
    }

    public int need(int clay, int what) {
        if (!now.hasClay(clay) || what < 0 || what > 1) {
            return NONE;
        }
        return hindsight.guessClay(clay, true, what);
    }

    public int damp(int clay, int what) {
        if (!now.hasClay(clay) || what < 0 || what > 1) {
            return NONE;
        }
        return hindsight.guessClay(clay, false, what);
    }

    public int rests(int one, int other, int n, int what) {
        if (one == other || !now.hasEmptyChamber(one) || !now.hasEmptyChamber(other)
                || n < 1 || n > 20 || what < 0 || what > 2) {
            return NO_QUESTION;
        }
        return foresight.restsOf(one, other, n, what);
    }

    public int alike(int what) {
        if (!now.isBuilt() || what < 0 || what > 1) {
            return NONE;
        }
        return foresight.firstAlike(what);
    }

    public int pence(int much, int clay) {
        if (!now.hasClay(clay) || much < 0 || much > 9999) {
            return NONE;
        }
        return now.shareOf(much, clay);
    }

    public int note(int n, int chamber) {
        if (n == NONE) {
            now.notes = 0;
            return 0;
        }
        if (n < 0 || n > LAST_NOTED_DAY || chamber != NONE && !now.hasChamber(chamber)
                || !now.isBuilt() || now.notes >= MOST_NOTES) {
            return NO_ANSWER;
        }
        now.noteDay[now.notes] = n;
        now.noteFire[now.notes] = chamber;
        now.notes++;
        return now.notes;
    }

    public int ruled(int what) {
        if (!now.isBuilt() || what < 0 || what > 1) {
            return NO_QUESTION;
        }
        return hindsight.guessRule(book.rules, what);
    }

    public int look(int what) {
        if (!now.isBuilt() || what < 0 || what > 1) {
            return NONE;
        }
        return hindsight.bestLook(book.rules, what);
    }

    public int seed(int x) {
        if (x < 0) {
            return NONE;
        }
        int was = now.drawn;
        now.drawn = x;
        return was;
    }

    public int rains(int m, int n, int p, int what) {
        if (!now.isBuilt() || m < 1 || m > 10 || n < 1 || n > 60 || p < 0 || p > 100
                || what < 0 || what > 1) {
            return NONE;
        }
        return foresight.underRain(m, n, p, what);
    }

    public int count(int what) {
        int[] cells = now.state.cells;
        switch (what) {
            case 0:
                return now.told.chambers;
            case 1:
                return now.told.clays;
            case 2:
                return now.told.orders;
            case 3:
                return book.rules;
            case 4:
                return now.ruleInForce;
            case 5:
                return cells[State.DAY];
            case 6:
                return cells[State.FIRE];
            case 7:
                return cells[State.COAL];
            case 8:
                return now.state.setBits();
            case 9:
                return now.state.storeOfAll();
            case 10:
                return cells[State.WASTE];
            case 11:
                return now.notes;
            case 12:
                return now.pastCount;
            case 13:
                return now.drawn;
            case 14:
                return tape.length;
            default:
                return NONE;
        }
    }

    public int image(int k) {
        if (k < 0 || k >= MOST_IMAGES) {
            return NONE;
        }
        images[k].copyFrom(now);
        imageMade[k] = true;
        return now.state.cells[State.DAY];
    }

    public int back(int k) {
        if (k < 0 || k >= MOST_IMAGES || !imageMade[k]) {
            return NONE;
        }
        now.copyFrom(images[k]);
        return now.state.cells[State.DAY];
    }

    /**
     * The bytes that were fed, and the token of them that is looked at. Every FAULT of the document
     * lies at the first byte of that token when it shows, so its place need not be told.
     */
    private static final class Tape {
        static final int END = 0;
        static final int NUMBER = 1;
        static final int WORD = 2;
        static final int SIGN = 3;

        static final int CANNOT_STAND = 0;
        static final int NOT_AS_TOLD = 1;
        static final int TOO_DEEP = 2;
        static final int PART_TOO_MANY = 3;
        static final int CLAUSE_TOO_MANY = 4;

        static final String WORDS = "kiln clay set fire order feed if not and or chamber warm wet burnt needs next damp glow coal good waste day ";
        static final int KILN = 0;
        static final int CLAY = 1;
        static final int SET = 2;
        static final int FIRE = 3;
        static final int ORDER = 4;
        static final int FEED = 5;
        static final int IF = 6;
        static final int NOT = 7;
        static final int AND = 8;
        static final int OR = 9;
        static final int FIRST_FACT = 10;

        /** Added to the byte of < or >, if = stands right behind it. */
        static final int OR_EQUAL = 256;

        final int[] bytes = new int[MOST_BYTES];
        int length;
        /** The first byte behind the token that is looked at. */
        int behind;
        int kind;
        int place;
        /** A NUMBER (NONE: too many digits), the number of a WORD (NONE: unknown), or a SIGN. */
        int value;
        int fault;

        void put(int four) {
            if (length + 4 > bytes.length) {
                return;
            }
            for (int shift = 24; shift >= 0; shift -= 8) {
                bytes[length] = four >>> shift & 255;
                length++;
            }
        }

        void rewind() {
            behind = 0;
            fault = 0;
            advance();
        }

        void advance() {
            while (behind < length && bytes[behind] == ' ') {
                behind++;
            }
            place = behind;
            value = NONE;
            if (behind >= length) {
                kind = END;
                return;
            }
            int first = bytes[behind];
            if (first >= '0' && first <= '9') {
                scanNumber();
            } else if (first >= 'a' && first <= 'z') {
                scanWord();
            } else {
                scanSign(first);
            }
        }

        private void scanNumber() {
            kind = NUMBER;
            int number = 0;
            while (behind < length && bytes[behind] >= '0' && bytes[behind] <= '9') {
                if (behind - place < 5) {
                    number = number * 10 + bytes[behind] - '0';
                }
                behind++;
            }
            value = behind - place <= 5 ? number : NONE;
        }

        private void scanWord() {
            kind = WORD;
            while (behind < length && bytes[behind] >= 'a' && bytes[behind] <= 'z') {
                behind++;
            }
            int number = 0;
            int same = place;
            for (int i = 0; i < WORDS.length(); i++) {
                char sign = WORDS.charAt(i);
                if (sign == ' ') {
                    if (same == behind) {
                        value = number;
                        return;
                    }
                    number++;
                    same = place;
                } else if (same >= place && same < behind && bytes[same] == sign) {
                    same++;
                } else {
                    same = NONE;
                }
            }
        }

        private void scanSign(int first) {
            kind = SIGN;
            value = first;
            behind++;
            boolean canHaveEqual = first == '<' || first == '>';
            if (canHaveEqual && behind < length && bytes[behind] == '=') {
                value += OR_EQUAL;
                behind++;
            }
        }

        boolean isWord(int word) {
            return kind == WORD && value == word;
        }

        boolean isSign(int sign) {
            return kind == SIGN && value == sign;
        }

        /** Whether another CLAUSE follows; what is no end and no ; can't stand behind one. */
        boolean goesOn() {
            if (kind == END) {
                return false;
            }
            if (!isSign(';')) {
                return fail(CANNOT_STAND);
            }
            advance();
            return true;
        }

        boolean fail(int kindOfFault) {
            fault = 1 + 8 * place + kindOfFault;
            return false;
        }
    }

    /** What the text of a KILN told. */
    private static final class Told {
        int chambers;
        int coal;
        int clays;
        int orders;
        int fire;
        final int[] clayWet = new int[MOST_CLAYS];
        final int[] clayNeeds = new int[MOST_CLAYS];
        final int[] setWith = new int[MOST_CHAMBERS];
        final int[] orderClay = new int[MOST_ORDERS];
        final int[] orderMany = new int[MOST_ORDERS];
        final int[] orderDue = new int[MOST_ORDERS];

        Told() {
            clear();
        }

        void clear() {
            chambers = 0;
            coal = 0;
            clays = 0;
            orders = 0;
            fire = NONE;
            for (int c = 0; c < MOST_CHAMBERS; c++) {
                setWith[c] = NONE;
            }
        }

        void copyFrom(Told other) {
            chambers = other.chambers;
            coal = other.coal;
            clays = other.clays;
            orders = other.orders;
            fire = other.fire;
            System.arraycopy(other.clayWet, 0, clayWet, 0, MOST_CLAYS);
            System.arraycopy(other.clayNeeds, 0, clayNeeds, 0, MOST_CLAYS);
            System.arraycopy(other.setWith, 0, setWith, 0, MOST_CHAMBERS);
            System.arraycopy(other.orderClay, 0, orderClay, 0, MOST_ORDERS);
            System.arraycopy(other.orderMany, 0, orderMany, 0, MOST_ORDERS);
            System.arraycopy(other.orderDue, 0, orderDue, 0, MOST_ORDERS);
        }

        int nextTo(int chamber) {
            return chamber + 1 < chambers ? chamber + 1 : 0;
        }
    }

    /** Reads the TAPE as a KILN; what it told stands in told, if there was no FAULT. */
    private static final class KilnReader {
        final Tape tape;
        final Told told = new Told();

        KilnReader(Tape tape) {
            this.tape = tape;
        }

        int read() {
            told.clear();
            tape.rewind();
            boolean more = true;
            for (int clause = 0; more && clause <= MOST_CLAUSES; clause++) {
                more = readClause(clause) && tape.goesOn();
            }
            return tape.fault;
        }

        private boolean readClause(int clause) {
            if (tape.kind != Tape.WORD || tape.value < Tape.KILN || tape.value > Tape.ORDER) {
                return tape.fail(Tape.CANNOT_STAND);
            }
            int head = tape.value;
            if (isTooMany(clause, head)) {
                return tape.fail(Tape.CLAUSE_TOO_MANY);
            }
            tape.advance();
            switch (head) {
                case Tape.KILN:
                    return readKiln();
                case Tape.CLAY:
                    return readClay();
                case Tape.SET:
                    return readSet();
                case Tape.FIRE:
                    return readFire();
                default:
                    return readOrder();
            }
        }

        private boolean isTooMany(int clause, int head) {
            boolean first = clause == 0;
            return clause >= MOST_CLAUSES
                    || first != (head == Tape.KILN)
                    || head == Tape.CLAY && told.clays >= MOST_CLAYS
                    || head == Tape.FIRE && told.fire != NONE
                    || head == Tape.ORDER && told.orders >= MOST_ORDERS;
        }

        private boolean readKiln() {
            if (!isNumber(3, MOST_CHAMBERS)) {
                return false;
            }
            told.chambers = takeNumber();
            if (!isNumber(0, MOST_COAL)) {
                return false;
            }
            told.coal = takeNumber();
            return true;
        }

        private boolean readClay() {
            int clay = told.clays;
            if (!isNumber(0, MOST_WET)) {
                return false;
            }
            told.clayWet[clay] = takeNumber();
            if (!isNumber(LEAST_NEEDS, MOST_NEEDS)) {
                return false;
            }
            told.clayNeeds[clay] = takeNumber();
            told.clays++;
            return true;
        }

        private boolean readSet() {
            if (!isNumber(0, told.chambers - 1)) {
                return false;
            }
            if (told.setWith[tape.value] != NONE) {
                return tape.fail(Tape.NOT_AS_TOLD);
            }
            int chamber = takeNumber();
            if (!isNumber(0, told.clays - 1)) {
                return false;
            }
            told.setWith[chamber] = takeNumber();
            return true;
        }

        private boolean readFire() {
            if (!isNumber(0, told.chambers - 1)) {
                return false;
            }
            if (told.setWith[tape.value] == NONE) {
                return tape.fail(Tape.NOT_AS_TOLD);
            }
            told.fire = takeNumber();
            return true;
        }

        private boolean readOrder() {
            int order = told.orders;
            if (!isNumber(0, told.clays - 1)) {
                return false;
            }
            told.orderClay[order] = takeNumber();
            if (!isNumber(1, 9)) {
                return false;
            }
            told.orderMany[order] = takeNumber();
            if (!isNumber(0, 99)) {
                return false;
            }
            told.orderDue[order] = takeNumber();
            told.orders++;
            return true;
        }

        private boolean isNumber(int least, int most) {
            if (tape.kind != Tape.NUMBER) {
                return tape.fail(Tape.CANNOT_STAND);
            }
            if (tape.value < least || tape.value > most) {
                return tape.fail(Tape.NOT_AS_TOLD);
            }
            return true;
        }

        private int takeNumber() {
            int number = tape.value;
            tape.advance();
            return number;
        }
    }

    /**
     * The RULES, each as a row of steps for a machine with a stack: a step is its kind and, times
     * 32, what goes with it. A text makes fewer steps than it has bytes.
     */
    private static final class RuleBook {
        static final int PUSH_NUMBER = 0;
        static final int PUSH_FACT = 1;
        static final int TAKE = 2;
        static final int TAKE_IF = 3;
        static final int NOT = 4;
        static final int AND = 5;
        static final int OR = 6;
        static final int ADD = 7;
        static final int SUBTRACT = 8;
        static final int MULTIPLY = 9;
        static final int DIVIDE = 10;
        static final int REST = 11;
        static final int LESS = 12;
        static final int LESS_OR_EQUAL = 13;
        static final int EQUAL = 14;
        static final int MORE_OR_EQUAL = 15;
        static final int MORE = 16;

        static final int KINDS = 32;
        static final int FACTS = 12;
        static final int MOST_FED = 9;

        final int[][] steps = new int[MOST_RULES][MOST_BYTES];
        final int[] sizes = new int[MOST_RULES];
        final long[] stack = new long[MOST_PARTS + 2];
        int rules;

        /** How much COAL a RULE wants, from 0 to 9. */
        int wants(int rule, int[] facts) {
            if (rule < 0 || rule >= rules) {
                return 0;
            }
            int[] row = steps[rule];
            int size = Math.min(sizes[rule], row.length);
            int top = 0;
            for (int i = 0; i < size; i++) {
                int kind = row[i] % KINDS;
                int with = row[i] / KINDS;
                if (kind == PUSH_NUMBER || kind == PUSH_FACT) {
                    if (top >= stack.length) {
                        return 0;
                    }
                    stack[top] = kind == PUSH_NUMBER ? with : factAt(facts, with);
                    top++;
                } else if (top < 1 || kind >= AND && top < 2) {
                    return 0;
                } else if (kind == NOT) {
                    stack[top - 1] = 1 - stack[top - 1];
                } else if (kind >= AND) {
                    top--;
                    stack[top - 1] = join(kind, stack[top - 1], stack[top]);
                } else if (kind == TAKE) {
                    return asFed(stack[top - 1]);
                } else {
                    if (top >= 2 && stack[top - 1] != 0) {
                        return asFed(stack[top - 2]);
                    }
                    top = 0;
                }
            }
            return 0;
        }

        private static long factAt(int[] facts, int number) {
            return number >= 0 && number < facts.length ? facts[number] : 0;
        }

        private static int asFed(long sum) {
            return (int) Math.max(0L, Math.min((long) MOST_FED, sum));
        }

        private static long join(int kind, long left, long right) {
            switch (kind) {
                case AND:
                    return left & right;
                case OR:
                    return left | right;
                case ADD:
                    return left + right;
                case SUBTRACT:
                    return left - right;
                case MULTIPLY:
                    return left * right;
                case DIVIDE:
                    return right == 0 ? 0 : left / right;
                case REST:
                    return right == 0 ? 0 : left % right;
                case LESS:
                    return left < right ? 1 : 0;
                case LESS_OR_EQUAL:
                    return left <= right ? 1 : 0;
                case EQUAL:
                    return left == right ? 1 : 0;
                case MORE_OR_EQUAL:
                    return left >= right ? 1 : 0;
                default:
                    return left > right ? 1 : 0;
            }
        }
    }

    /**
     * Reads the TAPE as a RULE into the first free row of the book. The row counts only when the
     * book has one RULE more, so a FAULT leaves nothing behind.
     */
    private static final class RuleReader {
        final Tape tape;
        final RuleBook book;
        int size;
        int parts;

        RuleReader(Tape tape, RuleBook book) {
            this.tape = tape;
            this.book = book;
        }

        int read() {
            size = 0;
            parts = 0;
            tape.rewind();
            boolean more = true;
            for (int clause = 0; more && clause <= MOST_RULE_CLAUSES; clause++) {
                more = readHead(clause) && readSum();
                boolean tested = more && tape.isWord(Tape.IF);
                if (tested) {
                    tape.advance();
                    more = readTest(0);
                }
                emit(tested ? RuleBook.TAKE_IF : RuleBook.TAKE);
                more = more && tape.goesOn();
            }
            if (book.rules < MOST_RULES) {
                book.sizes[book.rules] = size;
            }
            return tape.fault;
        }

        private boolean readHead(int clause) {
            if (!tape.isWord(Tape.FEED)) {
                return tape.fail(Tape.CANNOT_STAND);
            }
            if (clause >= MOST_RULE_CLAUSES) {
                return tape.fail(Tape.CLAUSE_TOO_MANY);
            }
            tape.advance();
            return true;
        }

        /** PARTS and FACTS in one loop: what "and" joins is put together ahead of any "or". */
        private boolean readTest(int depth) {
            boolean and = false;
            boolean or = false;
            for (int i = 0; i < MOST_BYTES; i++) {
                if (!readFact(depth)) {
                    return false;
                }
                if (and) {
                    emit(RuleBook.AND);
                }
                and = tape.isWord(Tape.AND);
                if (!and) {
                    if (or) {
                        emit(RuleBook.OR);
                    }
                    or = tape.isWord(Tape.OR);
                    if (!or) {
                        return true;
                    }
                }
                tape.advance();
            }
            return false;
        }

        private boolean readFact(int depth) {
            int inner = depth;
            while (tape.isWord(Tape.NOT) && inner < MOST_DEPTH) {
                inner++;
                tape.advance();
            }
            boolean opens = tape.isSign('[');
            if (inner >= MOST_DEPTH && (opens || tape.isWord(Tape.NOT))) {
                return tape.fail(Tape.TOO_DEEP);
            }
            boolean fine = opens ? readBrackets(inner + 1) : readSum();
            if (fine && !opens) {
                int comparison = takeComparison();
                fine = comparison != NONE && readSum();
                emit(comparison);
            }
            if ((inner - depth) % 2 != 0) {
                emit(RuleBook.NOT);
            }
            return fine;
        }

        private boolean readBrackets(int depth) {
            tape.advance();
            if (!readTest(depth)) {
                return false;
            }
            if (!tape.isSign(']')) {
                return tape.fail(Tape.CANNOT_STAND);
            }
            tape.advance();
            return true;
        }

        private int takeComparison() {
            int step = comparisonStep();
            if (step == NONE || !countPart()) {
                return NONE;
            }
            tape.advance();
            return step;
        }

        /** TERMS and VALUES in one loop: what * / % join is put together ahead of + and -. */
        private boolean readSum() {
            int product = NONE;
            int sum = NONE;
            for (int i = 0; i < MOST_BYTES; i++) {
                int value = valueStep();
                if (value == NONE || !countPart()) {
                    return false;
                }
                emit(value);
                emit(product);
                tape.advance();
                product = productStep();
                if (product == NONE) {
                    emit(sum);
                    sum = sumStep();
                    if (sum == NONE) {
                        return true;
                    }
                }
                tape.advance();
            }
            return false;
        }

        private boolean countPart() {
            if (parts >= MOST_PARTS) {
                return tape.fail(Tape.PART_TOO_MANY);
            }
            parts++;
            return true;
        }

        private int valueStep() {
            boolean isFact = tape.kind == Tape.WORD && tape.value >= Tape.FIRST_FACT;
            if (isFact) {
                return (tape.value - Tape.FIRST_FACT) * RuleBook.KINDS + RuleBook.PUSH_FACT;
            }
            if (tape.kind != Tape.NUMBER) {
                tape.fail(Tape.CANNOT_STAND);
                return NONE;
            }
            if (tape.value == NONE) {
                tape.fail(Tape.NOT_AS_TOLD);
                return NONE;
            }
            return tape.value * RuleBook.KINDS + RuleBook.PUSH_NUMBER;
        }

        private int productStep() {
            if (tape.isSign('*')) {
                return RuleBook.MULTIPLY;
            }
            if (tape.isSign('/')) {
                return RuleBook.DIVIDE;
            }
            return tape.isSign('%') ? RuleBook.REST : NONE;
        }

        private int sumStep() {
            if (tape.isSign('+')) {
                return RuleBook.ADD;
            }
            return tape.isSign('-') ? RuleBook.SUBTRACT : NONE;
        }

        private int comparisonStep() {
            int sign = tape.kind == Tape.SIGN ? tape.value : NONE;
            switch (sign) {
                case '<':
                    return RuleBook.LESS;
                case '<' + Tape.OR_EQUAL:
                    return RuleBook.LESS_OR_EQUAL;
                case '=':
                    return RuleBook.EQUAL;
                case '>' + Tape.OR_EQUAL:
                    return RuleBook.MORE_OR_EQUAL;
                case '>':
                    return RuleBook.MORE;
                default:
                    tape.fail(Tape.CANNOT_STAND);
                    return NONE;
            }
        }

        /** NONE stands for a step that is not pending. */
        private void emit(int step) {
            if (step == NONE || book.rules >= MOST_RULES || size >= MOST_BYTES) {
                return;
            }
            book.steps[book.rules][size] = step;
            size++;
        }
    }

    /** One moment of a kiln, as one row of numbers, so that a copy is one arraycopy. */
    private static final class State {
        static final int DAY = 0;
        static final int COAL = 1;
        static final int WASTE = 2;
        static final int STORE = 3;
        static final int SENT = STORE + MOST_CLAYS;
        /** From here on stands what days that are ALIKE have in common. */
        static final int FIRE = SENT + MOST_ORDERS;
        static final int CLAY = FIRE + 1;
        static final int WET = CLAY + MOST_CHAMBERS;
        static final int BURNT = WET + MOST_CHAMBERS;
        static final int WARM = BURNT + MOST_CHAMBERS;
        static final int SIZE = WARM + MOST_CHAMBERS;

        final int[] cells = new int[SIZE];

        void copyFrom(State other) {
            System.arraycopy(other.cells, 0, cells, 0, SIZE);
        }

        void begin(Told told) {
            for (int i = 0; i < SIZE; i++) {
                cells[i] = 0;
            }
            for (int order = 0; order < MOST_ORDERS; order++) {
                cells[SENT + order] = NONE;
            }
            for (int c = 0; c < MOST_CHAMBERS; c++) {
                cells[CLAY + c] = NONE;
                fill(told, c, told.setWith[c]);
            }
            cells[COAL] = told.coal;
            cells[FIRE] = told.fire;
            if (told.fire != NONE) {
                cells[WARM + told.fire] = 40;
            }
        }

        /** Sets an EMPTY chamber with a clay; NONE leaves it EMPTY. */
        void fill(Told told, int chamber, int clay) {
            if (clay < 0 || clay >= MOST_CLAYS) {
                return;
            }
            cells[CLAY + chamber] = clay;
            cells[WET + chamber] = told.clayWet[clay];
            cells[BURNT + chamber] = 0;
        }

        void drawFrom(int chamber, int kind) {
            int clay = cells[CLAY + chamber];
            boolean toStore = kind == GOOD && clay >= 0 && clay < MOST_CLAYS;
            int where = toStore ? STORE + clay : WASTE;
            cells[where] = Math.min(MOST_KEPT, cells[where] + 1);
            cells[CLAY + chamber] = NONE;
            cells[WET + chamber] = 0;
            cells[BURNT + chamber] = 0;
        }

        void heat(int chamber, int more) {
            cells[WARM + chamber] = Math.min(MOST_WARM, cells[WARM + chamber] + more);
        }

        boolean isSet(int chamber) {
            return cells[CLAY + chamber] != NONE;
        }

        int kindOf(Told told, int chamber) {
            int clay = cells[CLAY + chamber];
            if (clay < 0 || clay >= MOST_CLAYS) {
                return EMPTY;
            }
            int needs = told.clayNeeds[clay];
            int burnt = cells[BURNT + chamber];
            if (burnt < needs) {
                return RAW;
            }
            return burnt <= 2 * needs ? GOOD : CLINKER;
        }

        int setBits() {
            int bits = 0;
            for (int c = 0; c < MOST_CHAMBERS; c++) {
                if (isSet(c)) {
                    bits |= 1 << c;
                }
            }
            return bits;
        }

        int goodBits(Told told) {
            int bits = 0;
            for (int c = 0; c < MOST_CHAMBERS; c++) {
                if (kindOf(told, c) == GOOD) {
                    bits |= 1 << c;
                }
            }
            return bits;
        }

        int warmOfAll() {
            int warm = 0;
            for (int c = 0; c < MOST_CHAMBERS; c++) {
                warm += cells[WARM + c];
            }
            return warm;
        }

        int storeOfAll() {
            int store = 0;
            for (int clay = 0; clay < MOST_CLAYS; clay++) {
                store += cells[STORE + clay];
            }
            return store;
        }
    }

    /** All that an IMAGE holds. */
    private static final class Works {
        final Told told = new Told();
        final State state = new State();
        final int[] past = new int[MOST_UNDONE * State.SIZE];
        int pastEnd;
        int pastCount;
        int ruleInForce = NONE;
        int drawn;
        int notes;
        final int[] noteDay = new int[MOST_NOTES];
        final int[] noteFire = new int[MOST_NOTES];

        Works() {
            state.begin(told);
        }

        void startAs(Told text) {
            told.copyFrom(text);
            state.begin(told);
            pastEnd = 0;
            pastCount = 0;
            notes = 0;
        }

        void copyFrom(Works other) {
            told.copyFrom(other.told);
            state.copyFrom(other.state);
            System.arraycopy(other.past, 0, past, 0, past.length);
            pastEnd = other.pastEnd;
            pastCount = other.pastCount;
            ruleInForce = other.ruleInForce;
            drawn = other.drawn;
            notes = other.notes;
            System.arraycopy(other.noteDay, 0, noteDay, 0, MOST_NOTES);
            System.arraycopy(other.noteFire, 0, noteFire, 0, MOST_NOTES);
        }

        /** Called ahead of each ACT; the oldest of 20 gives way. */
        void remember() {
            System.arraycopy(state.cells, 0, past, pastEnd * State.SIZE, State.SIZE);
            pastEnd = (pastEnd + 1) % MOST_UNDONE;
            pastCount = Math.min(MOST_UNDONE, pastCount + 1);
        }

        void forgetLast() {
            pastEnd = (pastEnd + MOST_UNDONE - 1) % MOST_UNDONE;
            pastCount--;
            System.arraycopy(past, pastEnd * State.SIZE, state.cells, 0, State.SIZE);
        }

        boolean isBuilt() {
            return told.chambers > 0;
        }

        boolean hasChamber(int chamber) {
            return chamber >= 0 && chamber < told.chambers;
        }

        boolean hasSetChamber(int chamber) {
            return hasChamber(chamber) && state.isSet(chamber);
        }

        boolean hasEmptyChamber(int chamber) {
            return hasChamber(chamber) && !state.isSet(chamber);
        }

        boolean isCool(int chamber) {
            return state.cells[State.WARM + chamber] < COOL;
        }

        boolean hasClay(int clay) {
            return clay >= 0 && clay < told.clays;
        }

        boolean hasOrder(int order) {
            return order >= 0 && order < told.orders;
        }

        boolean isSent(int order) {
            return state.cells[State.SENT + order] != NONE;
        }

        boolean canSend(int order) {
            int store = state.cells[State.STORE + told.orderClay[order]];
            return !isSent(order) && store >= told.orderMany[order];
        }

        int lateBits() {
            int bits = 0;
            for (int order = 0; order < told.orders; order++) {
                int end = isSent(order) ? state.cells[State.SENT + order] : state.cells[State.DAY];
                if (end > told.orderDue[order]) {
                    bits |= 1 << order;
                }
            }
            return bits;
        }

        int bestOrders() {
            int best = 0;
            int most = 0;
            for (int bits = 1; bits < 1 << told.orders; bits++) {
                int many = manyOf(bits);
                if (many > most && canSendAll(bits)) {
                    best = bits;
                    most = many;
                }
            }
            return best;
        }

        int manyOf(int bits) {
            int many = 0;
            for (int order = 0; order < told.orders; order++) {
                if ((bits >> order & 1) != 0) {
                    many += told.orderMany[order];
                }
            }
            return many;
        }

        private boolean canSendAll(int bits) {
            for (int clay = 0; clay < told.clays; clay++) {
                int left = state.cells[State.STORE + clay];
                for (int order = 0; order < told.orders; order++) {
                    boolean within = (bits >> order & 1) != 0;
                    if (within && isSent(order)) {
                        return false;
                    }
                    if (within && told.orderClay[order] == clay) {
                        left -= told.orderMany[order];
                    }
                }
                if (left < 0) {
                    return false;
                }
            }
            return true;
        }

        int shareOf(int much, int clay) {
            int all = state.storeOfAll();
            if (all <= 0) {
                return 0;
            }
            int left = much;
            int ahead = 0;
            int lost = much * state.cells[State.STORE + clay] % all;
            for (int other = 0; other < told.clays; other++) {
                int product = much * state.cells[State.STORE + other];
                left -= product / all;
                int otherLost = product % all;
                if (otherLost > lost || otherLost == lost && other < clay) {
                    ahead++;
                }
            }
            int part = much * state.cells[State.STORE + clay] / all;
            return ahead < left ? part + 1 : part;
        }

        int lastNotedDay() {
            int last = NONE;
            for (int i = 0; i < notes; i++) {
                last = Math.max(last, noteDay[i]);
            }
            return last;
        }

        boolean notesAllow(int day, int fire) {
            for (int i = 0; i < notes; i++) {
                if (noteDay[i] == day && noteFire[i] != fire) {
                    return false;
                }
            }
            return true;
        }
    }

    /** How a DAY goes. */
    private static final class Course {
        static final int FED_WITHOUT_RULE = 4;
        static final int MOST_BURNT = 200;
        static final int LEAST_WARM = 5;

        final RuleBook book;
        final int[] facts = new int[RuleBook.FACTS];

        Course(RuleBook book) {
            this.book = book;
        }

        int pass(State state, Told told, int rule) {
            return passWith(state, told, wanted(state, told, rule));
        }

        private int wanted(State state, Told told, int rule) {
            int fire = state.cells[State.FIRE];
            if (fire == NONE) {
                return 0;
            }
            if (rule == NONE) {
                return FED_WITHOUT_RULE;
            }
            gatherFacts(state, told, fire);
            return book.wants(rule, facts);
        }

        /** In the order in which the words stand in Tape.WORDS. */
        private void gatherFacts(State state, Told told, int fire) {
            int[] cells = state.cells;
            int next = told.nextTo(fire);
            int clay = cells[State.CLAY + fire];
            facts[0] = fire;
            facts[1] = cells[State.WARM + fire];
            facts[2] = cells[State.WET + fire];
            facts[3] = cells[State.BURNT + fire];
            facts[4] = clay >= 0 && clay < MOST_CLAYS ? told.clayNeeds[clay] : 0;
            facts[5] = state.isSet(next) ? 1 : 0;
            facts[6] = cells[State.WET + next];
            facts[7] = cells[State.WARM + next];
            facts[8] = cells[State.COAL];
            facts[9] = state.storeOfAll();
            facts[10] = cells[State.WASTE];
            facts[11] = cells[State.DAY];
        }

        /** A DAY in which so much is wanted; how much was FED. */
        int passWith(State state, Told told, int wanted) {
            int[] cells = state.cells;
            int fire = cells[State.FIRE];
            int fed = fire == NONE ? 0 : Math.min(wanted, cells[State.COAL]);
            if (fed > 0) {
                int next = told.nextTo(fire);
                cells[State.COAL] -= fed;
                state.heat(fire, 4 * fed);
                state.heat(next, 2 * fed);
                state.heat(told.nextTo(next), fed);
            }
            for (int c = 0; c < told.chambers; c++) {
                dryOrBurn(cells, c);
                cells[State.WARM + c] -= (cells[State.WARM + c] + 5) / 6;
            }
            if (fire != NONE) {
                cells[State.FIRE] = fireBehind(state, told, fire);
            }
            cells[State.DAY]++;
            return fed;
        }

        private static void dryOrBurn(int[] cells, int chamber) {
            if (cells[State.CLAY + chamber] == NONE) {
                return;
            }
            int eighth = cells[State.WARM + chamber] / 8;
            if (cells[State.WET + chamber] > 0) {
                cells[State.WET + chamber] = Math.max(0, cells[State.WET + chamber] - eighth);
            } else {
                cells[State.BURNT + chamber] = Math.min(MOST_BURNT, cells[State.BURNT + chamber] + eighth);
            }
        }

        private static int fireBehind(State state, Told told, int fire) {
            if (state.cells[State.WARM + fire] < LEAST_WARM) {
                return NONE;
            }
            if (state.kindOf(told, fire) == RAW) {
                return fire;
            }
            int next = told.nextTo(fire);
            return state.isSet(next) ? next : NONE;
        }
    }

    /** What is asked of DAYS to come; it works on a STATE of its own. */
    private static final class Foresight {
        static final int IS_OUT = 0;
        static final int COMES = 1;
        static final int IS_RIPE = 2;
        static final int IS_SPOILT = 3;
        static final int IS_COLD = 4;

        static final int FAR = 200;
        static final int ALIKE_DAYS = 60;
        static final int ALIKE_SIZE = State.SIZE - State.FIRE;
        static final int MOST_WAYS = MOST_CLAYS + 1;

        final Works works;
        final Course course;
        final State state = new State();
        final RowSearch rowSearch;
        final int[] trace = new int[(ALIKE_DAYS + 1) * ALIKE_SIZE];
        final int[] oneHas = new int[MOST_WAYS * MOST_WAYS];
        final int[] otherHas = new int[MOST_WAYS * MOST_WAYS];

        Foresight(Works works, Course course) {
            this.works = works;
            this.course = course;
            rowSearch = new RowSearch(works, course);
        }

        State stateAfter(int days) {
            state.copyFrom(works.state);
            passDays(days);
            return state;
        }

        private void passDays(int days) {
            for (int i = 0; i < days; i++) {
                course.pass(state, works.told, works.ruleInForce);
            }
        }

        int firstDay(int question, int chamber) {
            state.copyFrom(works.state);
            for (int i = 0; i < FAR; i++) {
                int day = state.cells[State.DAY];
                int fire = state.cells[State.FIRE];
                passDays(1);
                if (isSo(question, chamber, fire)) {
                    return day;
                }
            }
            return NO_ANSWER;
        }

        private boolean isSo(int question, int chamber, int fireAhead) {
            int fire = state.cells[State.FIRE];
            switch (question) {
                case IS_OUT:
                    return fire == NONE;
                case COMES:
                    return fire == chamber && fireAhead != chamber;
                case IS_RIPE:
                    return state.kindOf(works.told, chamber) != RAW;
                case IS_SPOILT:
                    return state.kindOf(works.told, chamber) == CLINKER;
                default:
                    return fire != chamber && state.cells[State.WARM + chamber] < COOL;
            }
        }

        int bestClay(int chamber, int days, int what) {
            int best = NONE;
            int most = NONE;
            for (int clay = NONE; clay < works.told.clays; clay++) {
                state.copyFrom(works.state);
                state.fill(works.told, chamber, clay);
                passDays(days);
                int good = Integer.bitCount(state.goodBits(works.told));
                if (good > most) {
                    best = clay;
                    most = good;
                }
            }
            return what == 0 ? best : most;
        }

        int restsOf(int one, int other, int days, int what) {
            int ways = works.told.clays + 1;
            for (int a = 0; a < ways; a++) {
                for (int b = 0; b < ways; b++) {
                    state.copyFrom(works.state);
                    state.fill(works.told, one, a - 1);
                    state.fill(works.told, other, b - 1);
                    passDays(days);
                    oneHas[a * MOST_WAYS + b] = worthOf(one);
                    otherHas[a * MOST_WAYS + b] = worthOf(other);
                }
            }
            int rests = 0;
            int first = NONE;
            for (int i = 0; i < ways * ways; i++) {
                if (isRest(i / ways, i % ways, ways)) {
                    first = rests == 0 ? i : first;
                    rests++;
                }
            }
            if (what == 0) {
                return rests;
            }
            if (rests == 0) {
                return NO_ANSWER;
            }
            return what == 1 ? first / ways - 1 : first % ways - 1;
        }

        private int worthOf(int chamber) {
            int burnt = state.cells[State.BURNT + chamber];
            return state.kindOf(works.told, chamber) == CLINKER ? burnt - 30 : burnt;
        }

        private boolean isRest(int a, int b, int ways) {
            for (int way = 0; way < ways; way++) {
                if (oneHas[way * MOST_WAYS + b] > oneHas[a * MOST_WAYS + b]
                        || otherHas[a * MOST_WAYS + way] > otherHas[a * MOST_WAYS + b]) {
                    return false;
                }
            }
            return true;
        }

        int firstAlike(int what) {
            state.copyFrom(works.state);
            for (int i = 0; i <= ALIKE_DAYS; i++) {
                System.arraycopy(state.cells, State.FIRE, trace, i * ALIKE_SIZE, ALIKE_SIZE);
                passDays(1);
            }
            for (int i = 0; i < ALIKE_DAYS; i++) {
                for (int j = i + 1; j <= ALIKE_DAYS; j++) {
                    if (areAlike(i, j)) {
                        return what == 0 ? works.state.cells[State.DAY] + i : j - i;
                    }
                }
            }
            return NO_ANSWER;
        }

        private boolean areAlike(int i, int j) {
            for (int k = 0; k < ALIKE_SIZE; k++) {
                if (trace[i * ALIKE_SIZE + k] != trace[j * ALIKE_SIZE + k]) {
                    return false;
                }
            }
            return true;
        }

        int underRain(int times, int days, int chance, int what) {
            int x = works.drawn;
            int good = 0;
            int warm = 0;
            for (int time = 0; time < times; time++) {
                state.copyFrom(works.state);
                for (int i = 0; i < days; i++) {
                    x = drawnBehind(x);
                    if (x / 65536 % 100 < chance) {
                        x = drawnBehind(x);
                        rainOn(x / 65536);
                    }
                    passDays(1);
                }
                good += Integer.bitCount(state.goodBits(works.told));
                warm += state.warmOfAll();
            }
            return what == 0 ? good : warm;
        }

        private static int drawnBehind(int x) {
            return (int) ((x * 1103515245L + 12345L) % 2147483648L);
        }

        private void rainOn(int drawn) {
            int chambers = works.told.chambers;
            if (chambers <= 0) {
                return;
            }
            int chamber = drawn % chambers;
            int[] cells = state.cells;
            if (state.isSet(chamber) && cells[State.BURNT + chamber] == 0) {
                cells[State.WET + chamber] = Math.min(60, cells[State.WET + chamber] + 3);
            }
        }
    }

    /** Looks for the ROW by which least COAL goes, days that rows have in common passed once. */
    private static final class RowSearch {
        static final int MOST_DAYS = 5;
        static final int STEP = 3;
        static final int MOST_TRIED = 9;
        static final int AHEAD_OF_FIRST = -STEP;
        static final int MORE_THAN_ANY = 1000;
        static final int MOST_TRIES = 10000;

        final Works works;
        final Course course;
        final State[] states = new State[MOST_DAYS + 1];
        final int[] tried = new int[MOST_DAYS];
        final int[] best = new int[MOST_DAYS];
        int least;

        RowSearch(Works works, Course course) {
            this.works = works;
            this.course = course;
            for (int i = 0; i < states.length; i++) {
                states[i] = new State();
            }
        }

        int answer(int chamber, int days, int what) {
            least = MORE_THAN_ANY;
            states[0].copyFrom(works.state);
            tryAll(days, chamber);
            if (least == MORE_THAN_ANY) {
                return NO_ANSWER;
            }
            if (what == 0) {
                return least;
            }
            return what <= days ? best[what - 1] : NONE;
        }

        /** The rows as a tree, a DAY a level; a row by which not less goes is left where it shows. */
        private void tryAll(int days, int chamber) {
            int depth = 0;
            tried[0] = AHEAD_OF_FIRST;
            for (int i = 0; i < MOST_TRIES && depth >= 0 && depth < MOST_DAYS; i++) {
                tried[depth] += STEP;
                if (tried[depth] > MOST_TRIED || isAsBefore(states[depth], tried[depth])) {
                    depth--;
                    continue;
                }
                State behind = states[depth + 1];
                behind.copyFrom(states[depth]);
                course.passWith(behind, works.told, tried[depth]);
                if (gone(behind) >= least) {
                    continue;
                }
                if (depth + 1 < days) {
                    depth++;
                    tried[depth] = AHEAD_OF_FIRST;
                } else {
                    keepIfRipe(behind, chamber);
                }
            }
        }

        /** Whether no more is FED than by the number before this one, which comes first then. */
        private static boolean isAsBefore(State ahead, int number) {
            return number > 0
                    && (ahead.cells[State.FIRE] == NONE || ahead.cells[State.COAL] <= number - STEP);
        }

        private int gone(State state) {
            return works.state.cells[State.COAL] - state.cells[State.COAL];
        }

        private void keepIfRipe(State end, int chamber) {
            if (end.kindOf(works.told, chamber) != RAW) {
                least = gone(end);
                System.arraycopy(tried, 0, best, 0, MOST_DAYS);
            }
        }
    }

    /** What is asked by the NOTES, from the begin on, all as the text told it but for a guess. */
    private static final class Hindsight {
        static final int MOST_WAYS = MOST_RULES + 1;
        static final int DAYS = LAST_NOTED_DAY + 1;

        final Works works;
        final Course course;
        final State state = new State();
        final Told guess = new Told();
        final int[] places = new int[MOST_WAYS * DAYS];

        Hindsight(Works works, Course course) {
            this.works = works;
            this.course = course;
        }

        int guessClay(int clay, boolean itsNeeds, int what) {
            guess.copyFrom(works.told);
            int[] guessed = itsNeeds ? guess.clayNeeds : guess.clayWet;
            int least = itsNeeds ? LEAST_NEEDS : 0;
            int most = itsNeeds ? MOST_NEEDS : MOST_WET;
            int fitting = 0;
            int first = NO_ANSWER;
            for (int number = least; number <= most; number++) {
                guessed[clay] = number;
                if (fits(guess, works.ruleInForce)) {
                    first = fitting == 0 ? number : first;
                    fitting++;
                }
            }
            return what == 0 ? fitting : first;
        }

        /** A FIRE that is OUT stays so, and nothing but where it is matters: no DAY passes then. */
        private boolean fits(Told told, int rule) {
            state.begin(told);
            int last = works.lastNotedDay();
            for (int day = 0; day <= last; day++) {
                if (state.cells[State.FIRE] != NONE) {
                    course.pass(state, told, rule);
                }
                if (!works.notesAllow(day, state.cells[State.FIRE])) {
                    return false;
                }
            }
            return true;
        }

        int guessRule(int rules, int what) {
            int fitting = 0;
            int first = NO_ANSWER;
            for (int rule = NONE; rule < rules; rule++) {
                if (fits(works.told, rule)) {
                    first = fitting == 0 ? rule : first;
                    fitting++;
                }
            }
            return what == 0 ? fitting : first;
        }

        int bestLook(int rules, int what) {
            int fitting = 0;
            for (int rule = NONE; rule < rules && fitting < MOST_WAYS; rule++) {
                if (fits(works.told, rule)) {
                    tracePlaces(rule, fitting * DAYS);
                    fitting++;
                }
            }
            int best = NO_ANSWER;
            int fewest = NO_ANSWER;
            for (int day = 0; day < DAYS && fitting > 0; day++) {
                int most = mostAlike(day, fitting);
                if (day == 0 || most < fewest) {
                    best = day;
                    fewest = most;
                }
            }
            return what == 0 ? best : fewest;
        }

        private void tracePlaces(int rule, int from) {
            state.begin(works.told);
            for (int day = 0; day < DAYS; day++) {
                if (state.cells[State.FIRE] != NONE) {
                    course.pass(state, works.told, rule);
                }
                places[from + day] = state.cells[State.FIRE];
            }
        }

        private int mostAlike(int day, int fitting) {
            int most = 0;
            for (int i = 0; i < fitting; i++) {
                int alikeOnes = 0;
                for (int j = 0; j < fitting; j++) {
                    if (places[i * DAYS + day] == places[j * DAYS + day]) {
                        alikeOnes++;
                    }
                }
                most = Math.max(most, alikeOnes);
            }
            return most;
        }
    }
}
