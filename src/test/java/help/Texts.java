import java.util.Random;

/** Texts of KILNS and RULES, drawn, some of them spoilt; and how a text comes onto a TAPE. */
final class Texts {
    private static final String[] FACTS = {"chamber", "warm", "wet", "burnt", "needs", "next", "damp",
        "glow", "coal", "good", "waste", "day"};
    private static final String[] SIGNS = {"<", "<=", "=", ">=", ">"};
    private static final String[] SCRAPS = {";", " ", "[", "]", "not ", "0", "9", "100000", "feed", "if",
        "and", "or", "kiln", "clay", "set", "fire", "order", "warm", "<", "=", ">", "+", "%", "x", "A",
        "\u0000", "\t", "\u00ff", "kiln 3 0;", ";clay 1 1", ";order 0 1 1", ";fire 0", ";set 1 0"};

    private final Random random;

    Texts(Random random) {
        this.random = random;
    }

    /** The numbers for feed, five by five. */
    static int[] numbers(String text) {
        int calls = (text.length() + 19) / 20;
        int[] all = new int[calls * 5];
        for (int i = 0; i < text.length(); i++) {
            all[i / 4] |= (text.charAt(i) & 255) << 24 - i % 4 * 8;
        }
        return all;
    }

    /** Feeds a text to a TAPE that is empty; the calls that it took. */
    static int tell(RingKiln kiln, String text) {
        int[] all = numbers(text);
        for (int i = 0; i < all.length; i += 5) {
            kiln.feed(all[i], all[i + 1], all[i + 2], all[i + 3], all[i + 4]);
        }
        kiln.end(text.length());
        return all.length / 5 + 1;
    }

    private int below(int n) {
        return random.nextInt(n);
    }

    private boolean once(int in) {
        return below(in) == 0;
    }

    private String blanks() {
        return once(8) ? "  ".substring(below(2)) : "";
    }

    String kiln(boolean wild) {
        StringBuilder b = new StringBuilder();
        int chambers = 3 + below(once(3) ? 7 : 3);
        int coal = once(4) ? below(20) : once(8) ? 999 : below(400);
        int clays = once(12) ? 0 : 1 + below(3);
        b.append(blanks()).append("kiln").append(once(4) ? "" : " ").append(chambers).append(' ').append(coal);
        for (int k = 0; k < clays; k++) {
            int wet = once(3) ? 0 : below(once(3) ? 31 : 8);
            int needs = 1 + below(once(2) ? 60 : 14);
            b.append(blanks()).append(';').append(blanks()).append("clay ").append(wet).append(' ').append(needs);
        }
        String sets = "";
        boolean fire = false;
        int start = below(chambers);
        int many = clays == 0 ? 0 : below(chambers + 1);
        for (int i = 0; i < many; i++) {
            int c = (start + i) % chambers;
            b.append(";set ").append(c).append(blanks()).append(' ').append(below(clays));
            sets += c;
            if (!fire && once(4)) {
                b.append(";fire ").append(sets.charAt(below(sets.length())));
                fire = true;
            }
        }
        if (!fire && many > 0 && !once(4)) {
            b.append(";fire").append(blanks()).append(start);
        }
        int orders = clays == 0 ? 0 : below(5);
        for (int i = 0; i < orders; i++) {
            b.append(";order ").append(below(clays)).append(' ').append(1 + below(once(4) ? 9 : 2));
            b.append(' ').append(below(once(2) ? 100 : 20));
        }
        b.append(blanks());
        return wild ? spoil(b.toString()) : b.toString();
    }

    String rule(boolean wild) {
        StringBuilder b = new StringBuilder(blanks());
        int clauses = 1 + below(once(6) ? 13 : 4);
        int plain = once(5) ? 4 : 1;
        for (int i = 0; i < clauses; i++) {
            b.append(i == 0 ? "" : ";").append(blanks()).append("feed ");
            sum(b, plain);
            if (!once(clauses + 1)) {
                b.append(" if ");
                test(b, once(6) ? 4 : 2);
            }
        }
        if (once(15)) {
            b.setLength(0);
            b.append("feed 1");
            int more = 55 + below(7);
            for (int i = 0; i < more; i++) {
                b.append("+*-/%".charAt(below(5))).append(below(10));
            }
            b.append(once(2) ? " if day>1" : "");
        }
        if (once(15)) {
            b.setLength(0);
            b.append("feed 5 if ");
            int deep = 8 + below(4);
            String closing = "";
            for (int i = 0; i < deep; i++) {
                boolean not = once(2);
                b.append(not ? "not " : "[");
                closing += not ? "" : "]";
            }
            b.append("warm<30").append(closing).append(" and day<50");
        }
        if (b.length() > 400) {
            b.setLength(400);
        }
        return wild ? spoil(b.toString()) : b.toString();
    }

    private void test(StringBuilder b, int depth) {
        int facts = 1 + below(once(4) ? 3 : 2);
        for (int i = 0; i < facts; i++) {
            b.append(i == 0 ? "" : once(2) ? " and " : " or ");
            fact(b, depth);
        }
    }

    private void fact(StringBuilder b, int depth) {
        int kind = depth > 0 ? below(6) : 5;
        if (kind == 0) {
            b.append("not ").append(blanks());
            fact(b, depth - 1);
        } else if (kind == 1) {
            b.append('[').append(blanks());
            test(b, depth - 1);
            b.append(']');
        } else {
            sum(b, 1);
            b.append(blanks()).append(SIGNS[below(5)]).append(blanks());
            sum(b, 1);
        }
    }

    private void sum(StringBuilder b, int more) {
        int values = 1 + below(1 + more);
        for (int i = 0; i < values; i++) {
            b.append(i == 0 ? "" : "+-*/%".charAt(below(5)));
            if (once(2)) {
                b.append(FACTS[below(FACTS.length)]);
            } else {
                b.append(once(10) ? below(100000) : below(once(2) ? 10 : 60));
            }
            b.append(blanks());
        }
    }

    /** One CLAUSE of the text once more, somewhere. */
    private void again(StringBuilder b) {
        String[] clauses = b.toString().split(";");
        if (clauses.length > 0) {
            int at = b.indexOf(";", below(b.length() + 1));
            b.insert(at < 0 ? b.length() : at, ";" + clauses[below(clauses.length)]);
        }
    }

    private void otherNumber(StringBuilder b, int from) {
        for (int at = from; at < b.length(); at++) {
            if (Character.isDigit(b.charAt(at))) {
                int[] numbers = {0, 1, 2, 3, 9, 10, 30, 31, 60, 61, 99, 100, 999, 1000, 99999, 100000};
                b.replace(at, at + 1, String.valueOf(numbers[below(numbers.length)]));
                return;
            }
        }
    }

    private String spoil(String text) {
        StringBuilder b = new StringBuilder(text);
        int times = 1 + below(2);
        for (int i = 0; i < times; i++) {
            int at = below(b.length() + 1);
            switch (below(6)) {
                case 0:
                    b.setLength(at);
                    break;
                case 2:
                    again(b);
                    break;
                case 3:
                    otherNumber(b, at);
                    break;
                case 1:
                    b.delete(at, Math.min(b.length(), at + 1 + below(3)));
                    break;
                default:
                    b.insert(at, SCRAPS[below(SCRAPS.length)]);
            }
        }
        if (b.length() > 400) {
            b.setLength(400);
        }
        return b.toString();
    }
}
