import java.util.Random;

/** Drawn runs of calls: RingKiln answers as the plain model of the document does. */
public final class RandomRuns {
    private static final int RUNS = 400;
    private static final int CALLS = 500;
    private static int wrong;

    private final Random random;
    private final Texts texts;
    private final RingKiln x = new RingKiln();
    private final PlainKiln y = new PlainKiln();
    private final StringBuilder told = new StringBuilder();
    private final boolean steered;
    private int calls;

    private RandomRuns(long seed) {
        random = new Random(seed);
        steered = seed % 2 == 0;
        texts = new Texts(random);
    }

    public static void main(String[] args) {
        int runs = args.length > 0 ? Integer.parseInt(args[0]) : RUNS;
        for (int seed = 1; seed <= runs && wrong < 3; seed++) {
            RandomRuns run = new RandomRuns(seed);
            int before = wrong;
            while (run.calls < CALLS && wrong == before) {
                run.oneStep();
            }
            if (wrong != before) {
                System.out.println("run " + seed + ":\n" + run.told);
            }
        }
        System.out.println(wrong == 0 ? "all answers are as due" : wrong + " answers are not as due");
        if (wrong != 0) {
            System.exit(1);
        }
    }

    private int below(int n) {
        return random.nextInt(n);
    }

    private boolean once(int in) {
        return below(in) == 0;
    }

    /** A number mostly within 0 to most - 1, else about its edges. */
    private int about(int most) {
        if (!once(12)) {
            return below(Math.max(1, most));
        }
        int[] edges = {-2, -1, 0, most - 1, most, most + 1, Integer.MAX_VALUE, Integer.MIN_VALUE};
        return edges[below(edges.length)];
    }

    private int chamber() {
        return about(y.count(0));
    }

    private int emptyChamber() {
        int c = chamber();
        for (int i = 0; i < 9 && y.chamber(c, 4) > 0; i++) {
            c = chamber();
        }
        return c;
    }

    private int clay() {
        return about(y.count(1));
    }

    private void due(String call, int got, int want) {
        calls++;
        told.append(call).append(" -> ").append(got).append('\n');
        if (got != want) {
            wrong++;
            told.append("   due is ").append(want).append('\n');
        }
    }

    private void oneStep() {
        if (calls == 0 || once(120) || y.count(0) == 0 && !once(4)) {
            tellText();
        } else if (once(3)) {
            ask();
        } else if (steered && once(2)) {
            steer();
        } else {
            act();
        }
    }

    /** What a burner would do, so that there is STORE and a FIRE that goes round. */
    private void steer() {
        int chambers = y.count(0);
        int start = below(chambers + 1);
        for (int i = 0; i < chambers; i++) {
            int c = (start + i) % chambers;
            boolean cool = y.chamber(c, 3) < 20 && y.count(6) != c;
            int kind = y.chamber(c, 4);
            if (kind >= 2 && cool) {
                due("draw(" + c + ")", x.draw(c), y.draw(c));
                return;
            }
            if (kind == 0 && cool && y.count(1) > 0 && !once(8)) {
                int k = below(y.count(1));
                due("set(" + c + ", " + k + ")", x.set(c, k), y.set(c, k));
                return;
            }
            if (kind == 1 && y.count(6) == -1) {
                due("light(" + c + ")", x.light(c), y.light(c));
                return;
            }
        }
        if (y.count(7) < 20) {
            due("buy(90)", x.buy(90), y.buy(90));
        } else {
            due("day()", x.day(), y.day());
        }
    }

    private void feedAll(String text) {
        due("end(0)", x.end(0), y.end(0));
        int[] n = Texts.numbers(text);
        for (int i = 0; i < n.length; i += 5) {
            due("feed", x.feed(n[i], n[i + 1], n[i + 2], n[i + 3], n[i + 4]),
                    y.feed(n[i], n[i + 1], n[i + 2], n[i + 3], n[i + 4]));
        }
        due("end(" + text.length() + ")", x.end(text.length()), y.end(text.length()));
        told.append("  text: ").append(text).append('\n');
    }

    private void tellText() {
        boolean wild = once(3);
        if (y.count(0) == 0 || once(6)) {
            feedAll(texts.kiln(wild));
            due("kiln()", x.kiln(), y.kiln());
        } else {
            feedAll(texts.rule(wild));
            due("rule()", x.rule(), y.rule());
            int r = about(y.count(3));
            due("force(" + r + ")", x.force(r), y.force(r));
        }
        due("count(14)", x.count(14), y.count(14));
    }

    private void act() {
        int c = chamber();
        int k = clay();
        switch (below(24)) {
            case 0:
            case 1:
                due("set(" + c + ", " + k + ")", x.set(c, k), y.set(c, k));
                break;
            case 2:
            case 3:
                due("draw(" + c + ")", x.draw(c), y.draw(c));
                break;
            case 4:
                due("light(" + c + ")", x.light(c), y.light(c));
                break;
            case 5: {
                int coal = once(3) ? about(100) : 99;
                due("buy(" + coal + ")", x.buy(coal), y.buy(coal));
                break;
            }
            case 6: {
                int o = about(y.count(2));
                due("send(" + o + ")", x.send(o), y.send(o));
                break;
            }
            case 7:
                due("undo()", x.undo(), y.undo());
                break;
            case 8:
                keep();
                break;
            case 9:
                observe();
                break;
            default:
                due("day()", x.day(), y.day());
        }
    }

    private void keep() {
        int k = about(4);
        switch (below(5)) {
            case 0:
                due("image(" + k + ")", x.image(k), y.image(k));
                break;
            case 1:
                due("back(" + k + ")", x.back(k), y.back(k));
                for (int i = below(6); i > 0; i--) {
                    due("undo()", x.undo(), y.undo());
                }
                break;
            case 2: {
                int s = once(4) ? random.nextInt() : below(1000);
                due("seed(" + s + ")", x.seed(s), y.seed(s));
                break;
            }
            case 3: {
                int r = about(y.count(3) + 1) - 1;
                due("force(" + r + ")", x.force(r), y.force(r));
                break;
            }
            default:
                note();
        }
    }

    /** NOTES that are so for one of the RULES, mostly, so that some fit. */
    private void note() {
        int n = once(10) ? about(62) - 1 : below(once(2) ? 12 : 61);
        int c = once(3) ? chamber() : once(3) ? -1 : about(2);
        if (n >= 0 && n <= 60 && y.count(0) > 0 && !once(20)) {
            c = y.fireBehind(y.count(3) - 1, n);
        }
        due("note(" + n + ", " + c + ")", x.note(n, c), y.note(n, c));
    }

    private void observe() {
        int c = chamber();
        int k = clay();
        int o = about(y.count(2));
        int w = about(6);
        due("chamber(" + c + ", " + w + ")", x.chamber(c, w), y.chamber(c, w));
        due("clay(" + k + ", " + w + ")", x.clay(k, w), y.clay(k, w));
        due("order(" + o + ", " + w + ")", x.order(o, w), y.order(o, w));
        for (int i = -1; i <= 15; i++) {
            due("count(" + i + ")", x.count(i), y.count(i));
        }
    }

    private void ask() {
        int c = chamber();
        int k = clay();
        int w = about(2);
        switch (below(20)) {
            case 0: {
                int n = about(101);
                int what = about(5);
                due("ahead(" + c + ", " + n + ", " + what + ")", x.ahead(c, n, what), y.ahead(c, n, what));
                break;
            }
            case 1:
                due("out()", x.out(), y.out());
                break;
            case 2:
                due("comes(" + c + ")", x.comes(c), y.comes(c));
                break;
            case 3:
                due("ripe(" + c + ")", x.ripe(c), y.ripe(c));
                break;
            case 4:
                due("spoilt(" + c + ")", x.spoilt(c), y.spoilt(c));
                break;
            case 5:
                due("cold(" + c + ")", x.cold(c), y.cold(c));
                break;
            case 6: {
                int n = about(101);
                due("goods(" + n + ")", x.goods(n), y.goods(n));
                break;
            }
            case 7: {
                int n = about(5) + 1;
                for (int what = 0; what < 7; what++) {
                    due("row(" + c + ", " + n + ", " + what + ")", x.row(c, n, what), y.row(c, n, what));
                }
                break;
            }
            case 8: {
                c = emptyChamber();
                int n = about(40) + 1;
                due("plan(" + c + ", " + n + ", " + w + ")", x.plan(c, n, w), y.plan(c, n, w));
                break;
            }
            case 9:
                due("meet(" + w + ")", x.meet(w), y.meet(w));
                break;
            case 10:
                due("late()", x.late(), y.late());
                break;
            case 11:
                if (once(3)) {
                    due("need(" + k + ", " + w + ")", x.need(k, w), y.need(k, w));
                }
                break;
            case 12:
                if (once(2)) {
                    due("damp(" + k + ", " + w + ")", x.damp(k, w), y.damp(k, w));
                }
                break;
            case 13: {
                c = emptyChamber();
                int d = emptyChamber();
                int n = about(20) + 1;
                int what = about(3);
                due("rests(" + c + ", " + d + ", " + n + ", " + what + ")", x.rests(c, d, n, what),
                        y.rests(c, d, n, what));
                break;
            }
            case 14:
                due("alike(" + w + ")", x.alike(w), y.alike(w));
                break;
            case 15: {
                int much = about(10000);
                due("pence(" + much + ", " + k + ")", x.pence(much, k), y.pence(much, k));
                break;
            }
            case 16:
                note();
                break;
            case 17:
                due("ruled(" + w + ")", x.ruled(w), y.ruled(w));
                break;
            case 18:
                due("look(" + w + ")", x.look(w), y.look(w));
                break;
            default: {
                int m = about(10) + 1;
                int n = about(60) + 1;
                int p = about(101);
                due("rains(" + m + ", " + n + ", " + p + ", " + w + ")", x.rains(m, n, p, w), y.rains(m, n, p, w));
            }
        }
    }
}
