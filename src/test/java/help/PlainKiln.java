import java.util.ArrayList;
import java.util.Arrays;
import java.util.HashMap;
import java.util.List;
import java.util.Map;
import java.util.function.IntFunction;
import java.util.function.ToLongFunction;

/**
 * The document once more, written as it is read and with nothing in common with RingKiln but its
 * face: all is copied where RingKiln uses rows again, all rows are tried where it cuts short.
 */
final class PlainKiln {
    static final int NONE = -1;

    /** A FAULT of a text. */
    static final class Fault extends RuntimeException {
        private static final long serialVersionUID = 1L;
        final int number;

        Fault(int place, int kind) {
            super(null, null, false, false);
            number = 1 + 8 * place + kind;
        }
    }

    static final class Room {
        int clay = NONE;
        int wet;
        int burnt;
        int warm;

        Room copy() {
            Room r = new Room();
            r.clay = clay;
            r.wet = wet;
            r.burnt = burnt;
            r.warm = warm;
            return r;
        }

        String tell() {
            return clay + "/" + wet + "/" + burnt + "/" + warm;
        }
    }

    static final class Clay {
        final int wet;
        final int needs;

        Clay(int wet, int needs) {
            this.wet = wet;
            this.needs = needs;
        }
    }

    static final class Moment {
        int day;
        int coal;
        int fire = NONE;
        int waste;
        List<Room> rooms = new ArrayList<>();
        int[] store = new int[3];
        int[] sent = {NONE, NONE, NONE, NONE};

        Moment copy() {
            Moment m = new Moment();
            m.day = day;
            m.coal = coal;
            m.fire = fire;
            m.waste = waste;
            for (Room r : rooms) {
                m.rooms.add(r.copy());
            }
            m.store = store.clone();
            m.sent = sent.clone();
            return m;
        }

        String tell() {
            StringBuilder b = new StringBuilder("fire " + fire);
            for (Room r : rooms) {
                b.append(' ').append(r.tell());
            }
            return b.toString();
        }
    }

    /** A KILN as its text told it. */
    static final class Text {
        int chambers;
        int coal;
        int fire = NONE;
        List<Clay> clays = new ArrayList<>();
        Map<Integer, Integer> sets = new HashMap<>();
        List<int[]> orders = new ArrayList<>();

        Text with(int clay, Clay other) {
            Text t = new Text();
            t.chambers = chambers;
            t.coal = coal;
            t.fire = fire;
            t.clays = new ArrayList<>(clays);
            t.clays.set(clay, other);
            t.sets = sets;
            t.orders = orders;
            return t;
        }

        Moment begin() {
            Moment m = new Moment();
            m.coal = coal;
            m.fire = fire;
            for (int c = 0; c < chambers; c++) {
                Room r = new Room();
                if (sets.containsKey(c)) {
                    r.clay = sets.get(c);
                    r.wet = clays.get(r.clay).wet;
                }
                r.warm = c == fire ? 40 : 0;
                m.rooms.add(r);
            }
            return m;
        }
    }

    /** All that an IMAGE holds. */
    static final class All {
        Text text = new Text();
        Moment moment = new Moment();
        List<Moment> past = new ArrayList<>();
        List<int[]> notes = new ArrayList<>();
        int force = NONE;
        int x;

        All copy() {
            All a = new All();
            a.text = text;
            a.moment = moment.copy();
            for (Moment m : past) {
                a.past.add(m.copy());
            }
            a.notes.addAll(notes);
            a.force = force;
            a.x = x;
            return a;
        }
    }

    interface Sum {
        long of(Map<String, Long> facts);
    }

    interface Test {
        boolean holds(Map<String, Long> facts);
    }

    static final class Clause {
        Sum sum;
        Test test;
    }

    // ---- texts

    static class Reader {
        final String text;
        int at;

        Reader(String text) {
            this.text = text;
        }

        void blanks() {
            while (at < text.length() && text.charAt(at) == 32) {
                at++;
            }
        }

        /** The run of signs of one kind that begins here, without going on. */
        String run(char from, char to) {
            int e = at;
            while (e < text.length() && text.charAt(e) >= from && text.charAt(e) <= to) {
                e++;
            }
            return text.substring(at, e);
        }

        String word() {
            blanks();
            return run('a', 'z');
        }

        boolean take(String wanted) {
            if (!word().equals(wanted)) {
                return false;
            }
            at += wanted.length();
            return true;
        }

        boolean takeSign(String wanted) {
            blanks();
            if (!text.startsWith(wanted, at)) {
                return false;
            }
            at += wanted.length();
            return true;
        }

        int number(int least, int most) {
            blanks();
            String digits = run('0', '9');
            if (digits.isEmpty()) {
                throw new Fault(at, 0);
            }
            if (digits.length() > 5) {
                throw new Fault(at, 1);
            }
            int n = Integer.parseInt(digits);
            if (n < least || n > most) {
                throw new Fault(at, 1);
            }
            at += digits.length();
            return n;
        }

        boolean atEnd() {
            blanks();
            return at == text.length();
        }
    }

    static final class KilnReader extends Reader {
        KilnReader(String text) {
            super(text);
        }

        Text read() {
            Text t = new Text();
            int clauses = 0;
            do {
                String head = word();
                int place = at;
                if (!Arrays.asList("kiln", "clay", "set", "fire", "order").contains(head)) {
                    throw new Fault(place, 0);
                }
                clauses++;
                if (clauses > 40 || head.equals("kiln") != (clauses == 1)) {
                    throw new Fault(place, 4);
                }
                at += head.length();
                if (head.equals("kiln")) {
                    t.chambers = number(3, 9);
                    t.coal = number(0, 999);
                } else if (head.equals("clay")) {
                    if (t.clays.size() == 3) {
                        throw new Fault(place, 4);
                    }
                    int wet = number(0, 30);
                    t.clays.add(new Clay(wet, number(1, 60)));
                } else if (head.equals("set")) {
                    blanks();
                    int where = at;
                    int c = number(0, t.chambers - 1);
                    if (t.sets.containsKey(c)) {
                        throw new Fault(where, 1);
                    }
                    t.sets.put(c, number(0, t.clays.size() - 1));
                } else if (head.equals("fire")) {
                    if (t.fire != NONE) {
                        throw new Fault(place, 4);
                    }
                    blanks();
                    int where = at;
                    int c = number(0, t.chambers - 1);
                    if (!t.sets.containsKey(c)) {
                        throw new Fault(where, 1);
                    }
                    t.fire = c;
                } else {
                    if (t.orders.size() == 4) {
                        throw new Fault(place, 4);
                    }
                    int clay = number(0, t.clays.size() - 1);
                    int many = number(1, 9);
                    t.orders.add(new int[] {clay, many, number(0, 99)});
                }
            } while (goesOn());
            return t;
        }

        boolean goesOn() {
            if (atEnd()) {
                return false;
            }
            if (!takeSign(";")) {
                throw new Fault(at, 0);
            }
            return true;
        }
    }

    static final class RuleReader extends Reader {
        static final List<String> FACTS = Arrays.asList("chamber", "warm", "wet", "burnt", "needs",
                "next", "damp", "glow", "coal", "good", "waste", "day");
        int parts;

        RuleReader(String text) {
            super(text);
        }

        List<Clause> read() {
            List<Clause> all = new ArrayList<>();
            while (true) {
                if (!word().equals("feed")) {
                    throw new Fault(at, 0);
                }
                if (all.size() == 12) {
                    throw new Fault(at, 4);
                }
                take("feed");
                Clause c = new Clause();
                c.sum = sum();
                if (take("if")) {
                    c.test = test(0);
                }
                all.add(c);
                if (atEnd()) {
                    return all;
                }
                if (!takeSign(";")) {
                    throw new Fault(at, 0);
                }
            }
        }

        Test test(int depth) {
            Test left = part(depth);
            while (take("or")) {
                Test l = left;
                Test r = part(depth);
                left = f -> l.holds(f) || r.holds(f);
            }
            return left;
        }

        Test part(int depth) {
            Test left = fact(depth);
            while (take("and")) {
                Test l = left;
                Test r = fact(depth);
                left = f -> l.holds(f) && r.holds(f);
            }
            return left;
        }

        Test fact(int depth) {
            blanks();
            int place = at;
            if (take("not")) {
                if (depth == 10) {
                    throw new Fault(place, 2);
                }
                Test t = fact(depth + 1);
                return f -> !t.holds(f);
            }
            if (takeSign("[")) {
                if (depth == 10) {
                    throw new Fault(place, 2);
                }
                Test t = test(depth + 1);
                if (!takeSign("]")) {
                    throw new Fault(at, 0);
                }
                return t;
            }
            Sum l = sum();
            blanks();
            String sign = "";
            for (String s : new String[] {"<=", ">=", "<", "=", ">"}) {
                if (sign.isEmpty() && text.startsWith(s, at)) {
                    sign = s;
                }
            }
            if (sign.isEmpty()) {
                throw new Fault(at, 0);
            }
            onePart(at);
            takeSign(sign);
            Sum r = sum();
            switch (sign) {
                case "<": return f -> l.of(f) < r.of(f);
                case "<=": return f -> l.of(f) <= r.of(f);
                case "=": return f -> l.of(f) == r.of(f);
                case ">=": return f -> l.of(f) >= r.of(f);
                default: return f -> l.of(f) > r.of(f);
            }
        }

        void onePart(int place) {
            parts++;
            if (parts > 60) {
                throw new Fault(place, 3);
            }
        }

        Sum sum() {
            Sum left = term();
            while (true) {
                Sum l = left;
                if (takeSign("+")) {
                    Sum r = term();
                    left = f -> l.of(f) + r.of(f);
                } else if (takeSign("-")) {
                    Sum r = term();
                    left = f -> l.of(f) - r.of(f);
                } else {
                    return left;
                }
            }
        }

        Sum term() {
            Sum left = value();
            while (true) {
                Sum l = left;
                if (takeSign("*")) {
                    Sum r = value();
                    left = f -> l.of(f) * r.of(f);
                } else if (takeSign("/")) {
                    Sum r = value();
                    left = f -> r.of(f) == 0 ? 0 : l.of(f) / r.of(f);
                } else if (takeSign("%")) {
                    Sum r = value();
                    left = f -> r.of(f) == 0 ? 0 : l.of(f) % r.of(f);
                } else {
                    return left;
                }
            }
        }

        Sum value() {
            String w = word();
            int place = at;
            if (w.isEmpty()) {
                long n = number(0, 99999);
                onePart(place);
                return f -> n;
            }
            if (!FACTS.contains(w)) {
                throw new Fault(place, 0);
            }
            onePart(place);
            at += w.length();
            return f -> f.get(w);
        }
    }

    // ---- the course of a DAY

    static int kind(Text t, Room r) {
        if (r.clay == NONE) {
            return 0;
        }
        int needs = t.clays.get(r.clay).needs;
        return r.burnt < needs ? 1 : r.burnt <= 2 * needs ? 2 : 3;
    }

    static long says(Text t, Moment m, List<Clause> rule) {
        if (rule == null) {
            return 4;
        }
        Room at = m.rooms.get(m.fire);
        Room next = m.rooms.get((m.fire + 1) % t.chambers);
        Map<String, Long> f = new HashMap<>();
        f.put("chamber", (long) m.fire);
        f.put("warm", (long) at.warm);
        f.put("wet", (long) at.wet);
        f.put("burnt", (long) at.burnt);
        f.put("needs", (long) t.clays.get(at.clay).needs);
        f.put("next", next.clay == NONE ? 0L : 1L);
        f.put("damp", (long) next.wet);
        f.put("glow", (long) next.warm);
        f.put("coal", (long) m.coal);
        f.put("good", (long) m.store[0] + m.store[1] + m.store[2]);
        f.put("waste", (long) m.waste);
        f.put("day", (long) m.day);
        for (Clause c : rule) {
            if (c.test == null || c.test.holds(f)) {
                return c.sum.of(f);
            }
        }
        return 0;
    }

    static int pass(Text t, Moment m, ToLongFunction<Moment> wanted) {
        int fed = 0;
        if (m.fire != NONE) {
            long w = wanted.applyAsLong(m);
            w = w < 0 ? 0 : w > 9 ? 9 : w;
            fed = (int) Math.min(w, m.coal);
            m.coal -= fed;
            int[] times = {4, 2, 1};
            for (int i = 0; i < 3; i++) {
                Room r = m.rooms.get((m.fire + i) % t.chambers);
                r.warm = Math.min(99, r.warm + times[i] * fed);
            }
        }
        for (Room r : m.rooms) {
            if (r.clay != NONE) {
                int e = r.warm / 8;
                if (r.wet > 0) {
                    r.wet = Math.max(0, r.wet - e);
                } else {
                    r.burnt = Math.min(200, r.burnt + e);
                }
            }
        }
        for (Room r : m.rooms) {
            r.warm -= r.warm / 6 + (r.warm % 6 == 0 ? 0 : 1);
        }
        if (m.fire != NONE) {
            Room at = m.rooms.get(m.fire);
            int next = (m.fire + 1) % t.chambers;
            if (at.warm < 5) {
                m.fire = NONE;
            } else if (kind(t, at) != 1) {
                m.fire = m.rooms.get(next).clay != NONE ? next : NONE;
            }
        }
        m.day++;
        return fed;
    }

    // ---- the object

    final StringBuilder tape = new StringBuilder();
    final List<List<Clause>> rules = new ArrayList<>();
    final All[] images = new All[4];
    All now = new All();

    private List<Clause> ruleOf(int rule) {
        return rule == NONE ? null : rules.get(rule);
    }

    private int passBy(Text t, Moment m, int rule) {
        return pass(t, m, x -> says(t, x, ruleOf(rule)));
    }

    private Moment after(int n) {
        Moment m = now.moment.copy();
        for (int i = 0; i < n; i++) {
            passBy(now.text, m, now.force);
        }
        return m;
    }

    private boolean built() {
        return now.text.chambers != 0;
    }

    private boolean has(int c) {
        return c >= 0 && c < now.text.chambers;
    }

    private boolean hasClay(int c) {
        return c >= 0 && c < now.text.clays.size();
    }

    private boolean isSet(int c) {
        return has(c) && now.moment.rooms.get(c).clay != NONE;
    }

    private boolean isEmpty(int c) {
        return has(c) && now.moment.rooms.get(c).clay == NONE;
    }

    private void act() {
        now.past.add(now.moment.copy());
        if (now.past.size() > 20) {
            now.past.remove(0);
        }
    }

    int feed(int a, int b, int c, int d, int e) {
        if (tape.length() > 380) {
            return NONE;
        }
        for (int n : new int[] {a, b, c, d, e}) {
            for (int i = 3; i >= 0; i--) {
                tape.append((char) (n >> 8 * i & 255));
            }
        }
        return tape.length();
    }

    int end(int n) {
        if (n < 0 || n > tape.length()) {
            return NONE;
        }
        tape.setLength(n);
        return n;
    }

    int kiln() {
        String text = tape.toString();
        tape.setLength(0);
        try {
            Text t = new KilnReader(text).read();
            now.text = t;
            now.moment = t.begin();
            now.past.clear();
            now.notes.clear();
            return t.clays.size();
        } catch (Fault f) {
            return -2 - f.number;
        }
    }

    int rule() {
        if (rules.size() == 6) {
            return NONE;
        }
        String text = tape.toString();
        tape.setLength(0);
        try {
            rules.add(new RuleReader(text).read());
            return rules.size() - 1;
        } catch (Fault f) {
            return -2 - f.number;
        }
    }

    int force(int rule) {
        if (rule < NONE || rule >= rules.size()) {
            return -2;
        }
        int was = now.force;
        now.force = rule;
        return was;
    }

    int chamber(int c, int what) {
        if (!has(c) || what < 0 || what > 4) {
            return -2;
        }
        Room r = now.moment.rooms.get(c);
        return new int[] {r.clay, r.wet, r.burnt, r.warm, kind(now.text, r)}[what];
    }

    int clay(int c, int what) {
        if (!hasClay(c) || what < 0 || what > 2) {
            return NONE;
        }
        Clay k = now.text.clays.get(c);
        return new int[] {k.wet, k.needs, now.moment.store[c]}[what];
    }

    int order(int o, int what) {
        if (o < 0 || o >= now.text.orders.size() || what < 0 || what > 3) {
            return -2;
        }
        return what == 3 ? now.moment.sent[o] : now.text.orders.get(o)[what];
    }

    int day() {
        if (!built() || now.moment.day == 999) {
            return NONE;
        }
        act();
        return passBy(now.text, now.moment, now.force);
    }

    int set(int c, int clay) {
        if (!isEmpty(c) || !hasClay(clay) || now.moment.rooms.get(c).warm >= 20) {
            return NONE;
        }
        act();
        put(now.moment, c, clay);
        return now.moment.rooms.get(c).wet;
    }

    private void put(Moment m, int c, int clay) {
        if (clay != NONE) {
            Room r = m.rooms.get(c);
            r.clay = clay;
            r.wet = now.text.clays.get(clay).wet;
            r.burnt = 0;
        }
    }

    int draw(int c) {
        if (!isSet(c) || now.moment.fire == c || now.moment.rooms.get(c).warm >= 20) {
            return NONE;
        }
        act();
        Room r = now.moment.rooms.get(c);
        int k = kind(now.text, r);
        if (k == 2) {
            now.moment.store[r.clay] = Math.min(99, now.moment.store[r.clay] + 1);
        } else {
            now.moment.waste = Math.min(99, now.moment.waste + 1);
        }
        r.clay = NONE;
        r.wet = 0;
        r.burnt = 0;
        return k;
    }

    int light(int c) {
        if (!isSet(c) || now.moment.fire != NONE) {
            return NONE;
        }
        act();
        now.moment.fire = c;
        Room r = now.moment.rooms.get(c);
        r.warm = Math.min(99, r.warm + 30);
        return r.warm;
    }

    int buy(int coal) {
        if (!built() || coal < 1 || coal > 99) {
            return NONE;
        }
        act();
        now.moment.coal = Math.min(999, now.moment.coal + coal);
        return now.moment.coal;
    }

    int send(int o) {
        if (o < 0 || o >= now.text.orders.size() || now.moment.sent[o] != NONE) {
            return NONE;
        }
        int[] order = now.text.orders.get(o);
        if (now.moment.store[order[0]] < order[1]) {
            return NONE;
        }
        act();
        now.moment.store[order[0]] -= order[1];
        now.moment.sent[o] = now.moment.day;
        return now.moment.store[order[0]];
    }

    int undo() {
        if (now.past.isEmpty()) {
            return -2;
        }
        now.moment = now.past.remove(now.past.size() - 1);
        return now.past.size();
    }

    int ahead(int c, int n, int what) {
        if (!built() || n < 0 || n > 100 || what < 0 || what > 4 || what < 3 && !has(c)) {
            return -2;
        }
        Moment m = after(n);
        if (what == 3) {
            return m.fire;
        }
        if (what == 4) {
            return m.coal;
        }
        Room r = m.rooms.get(c);
        return what == 0 ? r.warm : what == 1 ? r.wet : r.burnt;
    }

    private interface Seen {
        boolean is(Moment before, Moment behind);
    }

    private int first(Seen seen) {
        Moment m = now.moment.copy();
        for (int i = 0; i < 200; i++) {
            Moment before = m.copy();
            passBy(now.text, m, now.force);
            if (seen.is(before, m)) {
                return now.moment.day + i;
            }
        }
        return -2;
    }

    int out() {
        return built() ? first((a, b) -> b.fire == NONE) : NONE;
    }

    int comes(int c) {
        return has(c) ? first((a, b) -> a.fire != c && b.fire == c) : NONE;
    }

    int ripe(int c) {
        return isSet(c) ? first((a, b) -> kind(now.text, b.rooms.get(c)) > 1) : NONE;
    }

    int spoilt(int c) {
        return isSet(c) ? first((a, b) -> kind(now.text, b.rooms.get(c)) == 3) : NONE;
    }

    int cold(int c) {
        return has(c) ? first((a, b) -> b.rooms.get(c).warm < 20 && b.fire != c) : NONE;
    }

    private int goodOnes(Moment m) {
        int n = 0;
        for (Room r : m.rooms) {
            n += kind(now.text, r) == 2 ? 1 : 0;
        }
        return n;
    }

    int goods(int n) {
        if (!built() || n < 0 || n > 100) {
            return NONE;
        }
        int bits = 0;
        List<Room> rooms = after(n).rooms;
        for (int c = 0; c < rooms.size(); c++) {
            bits += kind(now.text, rooms.get(c)) == 2 ? 1 << c : 0;
        }
        return bits;
    }

    int row(int c, int n, int what) {
        if (!isSet(c) || n < 1 || n > 5 || what < 0 || what > 5) {
            return -3;
        }
        int rows = 1;
        for (int i = 0; i < n; i++) {
            rows *= 4;
        }
        int[] best = null;
        int least = 0;
        for (int k = 0; k < rows; k++) {
            int[] row = new int[n];
            int rest = k;
            for (int i = n - 1; i >= 0; i--) {
                row[i] = rest % 4 * 3;
                rest /= 4;
            }
            Moment m = now.moment.copy();
            for (int fed : row) {
                pass(now.text, m, x -> fed);
            }
            int gone = now.moment.coal - m.coal;
            if (kind(now.text, m.rooms.get(c)) > 1 && (best == null || gone < least)) {
                best = row;
                least = gone;
            }
        }
        if (best == null) {
            return -2;
        }
        return what == 0 ? least : what > n ? NONE : best[what - 1];
    }

    int plan(int c, int n, int what) {
        if (!isEmpty(c) || n < 1 || n > 40 || what < 0 || what > 1) {
            return -2;
        }
        int best = NONE;
        int most = -1;
        for (int clay = -1; clay < now.text.clays.size(); clay++) {
            Moment m = now.moment.copy();
            put(m, c, clay);
            for (int i = 0; i < n; i++) {
                passBy(now.text, m, now.force);
            }
            if (goodOnes(m) > most) {
                most = goodOnes(m);
                best = clay;
            }
        }
        return what == 0 ? best : most;
    }

    int meet(int what) {
        if (!built() || what < 0 || what > 1) {
            return NONE;
        }
        int best = 0;
        int most = 0;
        for (int s = 0; s < 1 << now.text.orders.size(); s++) {
            int[] left = now.moment.store.clone();
            int many = 0;
            boolean fine = true;
            for (int o = 0; o < now.text.orders.size(); o++) {
                if ((s & 1 << o) != 0) {
                    int[] order = now.text.orders.get(o);
                    fine &= now.moment.sent[o] == NONE;
                    left[order[0]] -= order[1];
                    many += order[1];
                }
            }
            fine &= left[0] >= 0 && left[1] >= 0 && left[2] >= 0;
            if (fine && many > most) {
                most = many;
                best = s;
            }
        }
        return what == 0 ? most : best;
    }

    int late() {
        if (!built()) {
            return NONE;
        }
        int bits = 0;
        for (int o = 0; o < now.text.orders.size(); o++) {
            int due = now.text.orders.get(o)[2];
            int sent = now.moment.sent[o];
            boolean isLate = sent == NONE ? now.moment.day > due : sent > due;
            bits |= isLate ? 1 << o : 0;
        }
        return bits;
    }

    /** Where the FIRE is behind DAYS 0 to 60. */
    private int[] fires(Text t, int rule) {
        int[] at = new int[61];
        Moment m = t.begin();
        for (int d = 0; d <= 60; d++) {
            passBy(t, m, rule);
            at[d] = m.fire;
        }
        return at;
    }

    /** Where the FIRE is behind a DAY, from the begin on, by a RULE; for NOTES that can be so. */
    int fireBehind(int rule, int n) {
        return fires(now.text, rule)[n];
    }

    private boolean fits(int[] fires) {
        for (int[] note : now.notes) {
            if (fires[note[0]] != note[1]) {
                return false;
            }
        }
        return true;
    }

    private int guess(int from, int to, IntFunction<Text> texts, int what) {
        int many = 0;
        int least = -2;
        for (int k = to; k >= from; k--) {
            if (fits(fires(texts.apply(k), now.force))) {
                many++;
                least = k;
            }
        }
        return what == 0 ? many : least;
    }

    int need(int c, int what) {
        if (!hasClay(c) || what < 0 || what > 1) {
            return NONE;
        }
        Clay clay = now.text.clays.get(c);
        return guess(1, 60, k -> now.text.with(c, new Clay(clay.wet, k)), what);
    }

    int damp(int c, int what) {
        if (!hasClay(c) || what < 0 || what > 1) {
            return NONE;
        }
        Clay clay = now.text.clays.get(c);
        return guess(0, 30, k -> now.text.with(c, new Clay(k, clay.needs)), what);
    }

    private int has(Moment m, int c) {
        Room r = m.rooms.get(c);
        return r.clay == NONE ? 0 : kind(now.text, r) == 3 ? r.burnt - 30 : r.burnt;
    }

    private int[] haveBoth(int one, int other, int a, int b, int n) {
        Moment m = now.moment.copy();
        put(m, one, a);
        put(m, other, b);
        for (int i = 0; i < n; i++) {
            passBy(now.text, m, now.force);
        }
        return new int[] {has(m, one), has(m, other)};
    }

    int rests(int one, int other, int n, int what) {
        if (!isEmpty(one) || !isEmpty(other) || one == other || n < 1 || n > 20 || what < 0 || what > 2) {
            return -3;
        }
        List<int[]> found = new ArrayList<>();
        int clays = now.text.clays.size();
        for (int a = -1; a < clays; a++) {
            for (int b = -1; b < clays; b++) {
                int[] have = haveBoth(one, other, a, b, n);
                boolean rest = true;
                for (int k = -1; k < clays; k++) {
                    rest &= haveBoth(one, other, k, b, n)[0] <= have[0];
                    rest &= haveBoth(one, other, a, k, n)[1] <= have[1];
                }
                if (rest) {
                    found.add(new int[] {a, b});
                }
            }
        }
        return what == 0 ? found.size() : found.isEmpty() ? -2 : found.get(0)[what - 1];
    }

    int alike(int what) {
        if (!built() || what < 0 || what > 1) {
            return NONE;
        }
        List<String> told = new ArrayList<>();
        for (int i = 0; i <= 60; i++) {
            told.add(after(i).tell());
        }
        for (int i = 0; i < 60; i++) {
            int j = told.subList(i + 1, 61).indexOf(told.get(i));
            if (j >= 0) {
                return what == 0 ? now.moment.day + i : j + 1;
            }
        }
        return -2;
    }

    int pence(int much, int c) {
        if (!hasClay(c) || much < 0 || much > 9999) {
            return NONE;
        }
        int all = now.moment.store[0] + now.moment.store[1] + now.moment.store[2];
        if (all == 0) {
            return 0;
        }
        int[] part = new int[3];
        int[] lost = new int[3];
        int left = much;
        for (int k = 0; k < 3; k++) {
            part[k] = much * now.moment.store[k] / all;
            lost[k] = much * now.moment.store[k] % all;
            left -= part[k];
        }
        while (left > 0) {
            int best = 0;
            for (int k = 1; k < 3; k++) {
                best = lost[k] > lost[best] ? k : best;
            }
            part[best]++;
            lost[best] = -1;
            left--;
        }
        return part[c];
    }

    int note(int n, int c) {
        if (n == NONE) {
            now.notes.clear();
            return 0;
        }
        if (!built() || n < 0 || n > 60 || c != NONE && !has(c) || now.notes.size() == 10) {
            return -2;
        }
        now.notes.add(new int[] {n, c});
        return now.notes.size();
    }

    private List<Integer> fitting() {
        List<Integer> found = new ArrayList<>();
        for (int r = -1; r < rules.size(); r++) {
            if (fits(fires(now.text, r))) {
                found.add(r);
            }
        }
        return found;
    }

    int ruled(int what) {
        if (!built() || what < 0 || what > 1) {
            return -3;
        }
        List<Integer> found = fitting();
        return what == 0 ? found.size() : found.isEmpty() ? -2 : found.get(0);
    }

    int look(int what) {
        if (!built() || what < 0 || what > 1) {
            return NONE;
        }
        List<int[]> ways = new ArrayList<>();
        for (int r : fitting()) {
            ways.add(fires(now.text, r));
        }
        if (ways.isEmpty()) {
            return -2;
        }
        int best = 0;
        int fewest = Integer.MAX_VALUE;
        for (int d = 0; d <= 60; d++) {
            Map<Integer, Integer> groups = new HashMap<>();
            int most = 0;
            for (int[] way : ways) {
                most = Math.max(most, groups.merge(way[d], 1, Integer::sum));
            }
            if (most < fewest) {
                fewest = most;
                best = d;
            }
        }
        return what == 0 ? best : fewest;
    }

    int seed(int x) {
        if (x < 0) {
            return NONE;
        }
        int was = now.x;
        now.x = x;
        return was;
    }

    int rains(int times, int n, int p, int what) {
        if (!built() || times < 1 || times > 10 || n < 1 || n > 60 || p < 0 || p > 100
                || what < 0 || what > 1) {
            return NONE;
        }
        long[] x = {now.x};
        int good = 0;
        int warm = 0;
        for (int t = 0; t < times; t++) {
            Moment m = now.moment.copy();
            for (int d = 0; d < n; d++) {
                if (drawOf(x) % 100 < p) {
                    Room r = m.rooms.get((int) (drawOf(x) % now.text.chambers));
                    if (r.clay != NONE && r.burnt == 0) {
                        r.wet = Math.min(60, r.wet + 3);
                    }
                }
                passBy(now.text, m, now.force);
            }
            good += goodOnes(m);
            for (Room r : m.rooms) {
                warm += r.warm;
            }
        }
        return what == 0 ? good : warm;
    }

    private static long drawOf(long[] x) {
        x[0] = (x[0] * 1103515245L + 12345L) & 0x7fffffffL;
        return x[0] >> 16;
    }

    int count(int what) {
        if (what < 0 || what > 14) {
            return NONE;
        }
        int set = 0;
        for (int c = 0; c < now.text.chambers; c++) {
            set += isSet(c) ? 1 << c : 0;
        }
        Moment m = now.moment;
        return new int[] {now.text.chambers, now.text.clays.size(), now.text.orders.size(), rules.size(),
            now.force, m.day, m.fire, m.coal, set, m.store[0] + m.store[1] + m.store[2], m.waste,
            now.notes.size(), now.past.size(), now.x, tape.length()}[what];
    }

    int image(int k) {
        if (k < 0 || k > 3) {
            return NONE;
        }
        images[k] = now.copy();
        return now.moment.day;
    }

    int back(int k) {
        if (k < 0 || k > 3 || images[k] == null) {
            return NONE;
        }
        now = images[k].copy();
        return now.moment.day;
    }
}
