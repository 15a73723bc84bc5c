import java.util.Random;

/** Calls with any numbers in any state: none throws, and all end. */
public final class WildCalls {
    private static final int[] EDGES = {Integer.MIN_VALUE, Integer.MIN_VALUE + 1, -1000, -3, -2, -1, 0, 1, 2, 3, 4, 5, 6,
        8, 9, 10, 20, 40, 60, 61, 99, 100, 200, 399, 400, 999, 9999, 10000, Integer.MAX_VALUE - 1, Integer.MAX_VALUE};

    private final Random random;

    private WildCalls(Random random) {
        this.random = random;
    }

    public static void main(String[] args) {
        long sum = 0;
        for (int seed = 0; seed < 300; seed++) {
            Random random = new Random(seed);
            WildCalls wild = new WildCalls(random);
            Texts texts = new Texts(random);
            RingKiln x = new RingKiln();
            for (int i = 0; i < 400; i++) {
                if (random.nextInt(30) == 0) {
                    Texts.tell(x, texts.kiln(random.nextInt(3) == 0));
                    sum += x.kiln();
                } else if (random.nextInt(30) == 0) {
                    Texts.tell(x, texts.rule(random.nextInt(3) == 0));
                    sum += x.rule();
                }
                sum += wild.call(x, random.nextInt(39));
            }
        }
        Due.holds("all calls came back, " + sum, true);
        Due.end();
    }

    private int n() {
        return random.nextInt(4) == 0 ? random.nextInt() : EDGES[random.nextInt(EDGES.length)];
    }

    private int call(RingKiln x, int which) {
        switch (which) {
            case 0: return x.feed(n(), n(), n(), n(), n());
            case 1: return x.end(n());
            case 2: return x.kiln();
            case 3: return x.rule();
            case 4: return x.force(n());
            case 5: return x.chamber(n(), n());
            case 6: return x.clay(n(), n());
            case 7: return x.order(n(), n());
            case 8: return x.day();
            case 9: return x.set(n(), n());
            case 10: return x.draw(n());
            case 11: return x.light(n());
            case 12: return x.buy(n());
            case 13: return x.send(n());
            case 14: return x.undo();
            case 15: return x.ahead(n(), n(), n());
            case 16: return x.out();
            case 17: return x.comes(n());
            case 18: return x.ripe(n());
            case 19: return x.spoilt(n());
            case 20: return x.cold(n());
            case 21: return x.goods(n());
            case 22: return x.row(n(), n(), n());
            case 23: return x.plan(n(), n(), n());
            case 24: return x.meet(n());
            case 25: return x.late();
            case 26: return x.need(n(), n());
            case 27: return x.damp(n(), n());
            case 28: return x.rests(n(), n(), n(), n());
            case 29: return x.alike(n());
            case 30: return x.pence(n(), n());
            case 31: return x.note(n(), n());
            case 32: return x.ruled(n());
            case 33: return x.look(n());
            case 34: return x.seed(n());
            case 35: return x.rains(n(), n(), n(), n());
            case 36: return x.count(n());
            case 37: return x.image(n());
            default: return x.back(n());
        }
    }
}
