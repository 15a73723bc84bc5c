/**
 * Each promise of the document, 1 to 40. Most answers were worked out by hand; those of long runs (no rests, CLINKER
 * BURNT 30, WET 60, DAYS 60 and 200, days alike in a ring) were found with PlainKiln.
 */
public final class PromiseTests {
    /**
     * Without a RULE (4 COAL a DAY) behind DAYS 0, 1, 2 ..: CHAMBER 0 is WARM 46 51 42 35 29 24 20 16,
     * BURNT 7 14 20 25 29 32 35 37; CHAMBER 1 is WARM 6 11 9 7 5; the FIRE is OUT behind DAY 1.
     */
    private static final String ONE = "kiln 3 20;clay 0 10;set 0 0;fire 0";
    /** The FIRE goes on from 1 to 2 in DAY 0, to 0 in DAY 2, to 1 in DAY 3. */
    private static final String RING = "kiln 3 99;clay 0 5;set 0 0;set 1 0;set 2 0;fire 1";
    private static final String EMPTY_ONE = "kiln 4 0;clay 0 9;clay 5 60;order 0 1 3;order 0 2 50;order 1 1 0";

    public static void main(String[] args) {
        newObject();
        tape();
        kilns();
        kilnFaults();
        rules();
        ruleFaults();
        rulesInForce();
        ruleWords();
        ruleSums();
        told();
        days();
        sets();
        draws();
        lights();
        buys();
        sends();
        undone();
        ahead();
        firsts();
        goods();
        rows();
        plans();
        meets();
        late();
        needs();
        damps();
        rests();
        alike();
        pence();
        notes();
        ruled();
        looks();
        seeds();
        rains();
        counts();
        images();
        Due.end();
    }

    private static RingKiln of(String text, String... rules) {
        return Kilns.of(text, rules);
    }

    private static void pass(RingKiln x, int days) {
        Kilns.pass(x, days);
    }

    private static int fault(int place, int kind) {
        return Kilns.fault(place, kind);
    }

    private static void kilnIs(String text, int want) {
        Kilns.kilnIs(text, want);
    }

    private static void ruleIs(String text, int want) {
        Kilns.ruleIs(text, want);
    }

    private static String times(String part, int n) {
        return Kilns.times(part, n);
    }

    // Promise 1
    private static void newObject() {
        RingKiln x = new RingKiln();
        int[] want = {0, 0, 0, 0, -1, 0, -1, 0, 0, 0, 0, 0, 0, 0, 0};
        for (int i = 0; i < want.length; i++) {
            Due.is("new: count " + i, x.count(i), want[i]);
        }
        Due.is("new: chamber", x.chamber(0, 0), -2);
        Due.is("new: force", x.force(0), -2);
        Due.is("new: back", x.back(0), -1);
        Due.is("new: day", x.day(), -1);
        Due.is("new: buy", x.buy(5), -1);
    }

    // Promises 2 and 3
    private static void tape() {
        RingKiln x = new RingKiln();
        Due.is("end of nothing", x.end(0), 0);
        Due.is("end of more than nothing", x.end(1), -1);
        Due.is("end below 0", x.end(-1), -1);
        for (int i = 1; i <= 20; i++) {
            Due.is("feed " + i, x.feed(-1, 0, 1, Integer.MIN_VALUE, i), 20 * i);
        }
        Due.is("feed beyond 400", x.feed(0, 0, 0, 0, 0), -1);
        Due.is("nothing came", x.count(14), 400);
        Due.is("end 401", x.end(401), -1);
        Due.is("end 381", x.end(381), 381);
        Due.is("feed at 381", x.feed(0, 0, 0, 0, 0), -1);
        Due.is("nothing came at 381", x.count(14), 381);
        Due.is("end 380", x.end(380), 380);
        Due.is("feed at 380", x.feed(0, 0, 0, 0, 0), 400);
        Due.is("end -1", x.end(-1), -1);
        Due.is("end least", x.end(Integer.MIN_VALUE), -1);
        Due.is("bytes stay", x.count(14), 400);
        Due.is("end 0", x.end(0), 0);
        // "kiln 3 7" and blanks: the highest byte of each number first
        x.feed(0x6b696c6e, 0x20332037, 0x20202020, 0x20202020, 0x20202020);
        Due.is("kiln by bytes", x.kiln(), 0);
        Due.is("its coal", x.count(7), 7);
        x.feed(0x6b696c6e, 0x20332037, 0xff202020, 0x20202020, 0x20202020);
        Due.is("byte 255", x.kiln(), fault(8, 0));
    }

    // Promise 4
    private static void kilns() {
        kilnIs("kiln 3 0", 0);
        kilnIs("kiln9 999", 0);
        kilnIs("  kiln  00003  00999 ; clay 30 60;clay 0 1 ;clay 1 2  ", 3);
        kilnIs("kiln 9 0;clay 0 1;set 8 0;fire 8;order 0 9 99", 1);
        RingKiln x = of(ONE, "feed 1");
        x.force(0);
        x.seed(77);
        x.note(3, 1);
        x.day();
        x.image(2);
        Texts.tell(x, "kiln 4 5;clay 1 2;fire 0");
        Due.is("a fault", x.kiln(), fault(23, 1));
        Due.is("chambers stay", x.count(0), 3);
        Due.is("notes stay", x.count(11), 1);
        Due.is("acts stay", x.count(12), 1);
        Due.is("day stays", x.count(5), 1);
        Texts.tell(x, "kiln 4 5;clay 3 2;set 3 0;order 0 2 8");
        Due.is("another", x.kiln(), 1);
        int[] want = {4, 1, 1, 1, 0, 0, -1, 5, 8, 0, 0, 0, 0, 77, 0};
        for (int i = 0; i < want.length; i++) {
            Due.is("another: count " + i, x.count(i), want[i]);
        }
        Due.is("nothing to undo", x.undo(), -2);
        Due.is("wet", x.chamber(3, 1), 3);
        Due.is("warm", x.chamber(3, 3), 0);
        Due.is("burnt", x.chamber(3, 2), 0);
        Due.is("not sent", x.order(0, 3), -1);
        Due.is("an image of the old one", x.back(2), 1);
        Due.is("its chambers", x.count(0), 3);
    }

    // Promise 4, FAULTS
    private static void kilnFaults() {
        kilnIs("", fault(0, 0));
        kilnIs("   ", fault(3, 0));
        kilnIs("Kiln 3 0", fault(0, 0));
        kilnIs("feed 1", fault(0, 0));
        kilnIs(" set 0 0", fault(1, 4));
        kilnIs("fire 0", fault(0, 4));
        kilnIs("order 0 1 1", fault(0, 4));
        kilnIs("kiln", fault(4, 0));
        kilnIs("kiln ", fault(5, 0));
        kilnIs("kiln 3", fault(6, 0));
        kilnIs("kiln 30", fault(5, 1));
        kilnIs("kiln 2 0", fault(5, 1));
        kilnIs("kiln 000003 0", fault(5, 1));
        kilnIs("kiln 3 999999999999", fault(7, 1));
        kilnIs("kiln -3 0", fault(5, 0));
        kilnIs("kiln 3 0 1", fault(9, 0));
        kilnIs("kiln 3 0;", fault(9, 0));
        kilnIs("kiln 3 0;;clay 1 1", fault(9, 0));
        kilnIs("kiln 3 0;brick 1", fault(9, 0));
        kilnIs("kiln 3 0 clay 1 1", fault(9, 0));
        kilnIs("kiln 3\t0", fault(6, 0));
        kilnIs("kiln 3 0;clay 31 1", fault(14, 1));
        kilnIs("kiln 3 0;clay 30 61", fault(17, 1));
        kilnIs("kiln 3 0;clay 1", fault(15, 0));
        kilnIs("kiln 3 0;clay 1 1;set 3 0", fault(22, 1));
        kilnIs("kiln 3 0;clay 1 1;set 2 1", fault(24, 1));
        kilnIs("kiln 3 0;clay 1 1;set 2 0;set 2 0", fault(30, 1));
        kilnIs("kiln 3 0;clay 1 1;set 2 0;fire 1", fault(31, 1));
        kilnIs("kiln 3 0;clay 1 1;set 2 0;fire 3", fault(31, 1));
        kilnIs("kiln 3 0;clay 1 1;set 2 0;fire 2;fire 9", fault(33, 4));
        kilnIs("kiln 3 0;clay 1 1;order 1 1 1", fault(24, 1));
        kilnIs("kiln 3 0;clay 1 1;order 0 0 1", fault(26, 1));
        kilnIs("kiln 3 0;clay 1 1;order 0 9 100", fault(28, 1));
        kilnIs("kiln 3 0" + times(";clay 1 1", 4), fault(9 + 27, 4));
        kilnIs("kiln 3 0;clay 1 1" + times(";order 0 1 1", 5), fault(18 + 48, 4));
        kilnIs("kiln 3 0;kiln x", fault(9, 4));
        kilnIs("kiln 3 0;kilns", fault(9, 0));
    }

    // Promise 5
    private static void rules() {
        RingKiln x = new RingKiln();
        for (int i = 0; i < 6; i++) {
            Texts.tell(x, "feed " + i);
            Due.is("rule " + i, x.rule(), i);
            Due.is("bytes behind it", x.count(14), 0);
        }
        Texts.tell(x, "feed 7");
        Due.is("a seventh", x.rule(), -1);
        Due.is("its bytes stay", x.count(14), 6);
        Due.is("six", x.count(3), 6);
        ruleIs("feed 1", 0);
        ruleIs("feed1if1=1", 0);
        ruleIs(" feed  warm * 2 if not [ wet >= 1 or day < 3 and 1=1 ] ; feed 0 ", 0);
        ruleIs("feed 1 if " + times("[", 10) + "1=1" + times("]", 10), 0);
        ruleIs("feed 1 if " + times("not ", 10) + "1=1", 0);
        ruleIs("feed 1" + times("+1", 59), 0);
        ruleIs("feed 1" + times("+1", 56) + " if 1=1", 0);
        ruleIs("feed 1" + times(";feed 1", 11), 0);
        ruleIs("feed 99999", 0);
        ruleIs("feed 1 if [1=1] and not 1=2 or [not [2=2]]", 0);
    }

    // Promise 5, FAULTS
    private static void ruleFaults() {
        ruleIs("", fault(0, 0));
        ruleIs("kiln 3 0", fault(0, 0));
        ruleIs("feed", fault(4, 0));
        ruleIs("feed  ", fault(6, 0));
        ruleIs("feed if 1=1", fault(5, 0));
        ruleIs("feed not", fault(5, 0));
        ruleIs("feed 1 2", fault(7, 0));
        ruleIs("feed 1 warm", fault(7, 0));
        ruleIs("feed 1+", fault(7, 0));
        ruleIs("feed -1", fault(5, 0));
        ruleIs("feed [1]", fault(5, 0));
        ruleIs("feed warmer", fault(5, 0));
        ruleIs("feed Warm", fault(5, 0));
        ruleIs("feed warmz", fault(5, 0));
        ruleIs("feed awarm", fault(5, 0));
        ruleIs("feed 1 ifwarm=1", fault(7, 0));
        ruleIs("feed 1;", fault(7, 0));
        ruleIs("feed 1;fed 1", fault(7, 0));
        ruleIs("feed 1 if 1", fault(11, 0));
        ruleIs("feed 1 if 1==1", fault(12, 0));
        ruleIs("feed 1 if 1< =1", fault(13, 0));
        ruleIs("feed 1 if 1=<1", fault(12, 0));
        ruleIs("feed 1 if 1=1=1", fault(13, 0));
        ruleIs("feed 1 if [1=1", fault(14, 0));
        ruleIs("feed 1 if [1=1;feed 1", fault(14, 0));
        ruleIs("feed 1 if [1]=1", fault(12, 0));
        ruleIs("feed 1 if 1=1]", fault(13, 0));
        ruleIs("feed 1 if 1=1 and", fault(17, 0));
        ruleIs("feed 1 if 1=1 or or", fault(17, 0));
        ruleIs("feed 1 if 1=1 if 1=1", fault(14, 0));
        ruleIs("feed 123456", fault(5, 1));
        ruleIs("feed 1 if warm<000001", fault(15, 1));
        ruleIs("feed 1 000001", fault(7, 0));
        ruleIs("feed 1 if " + times("[", 11), fault(20, 2));
        ruleIs("feed 1 if " + times("not ", 11) + "1=1", fault(50, 2));
        ruleIs("feed 1 if " + times("not[", 5) + "not 1=1", fault(30, 2));
        ruleIs("feed 1 if " + times("not[", 5) + "1=1" + times("]", 5) + " and " + times("[", 11), fault(53, 2));
        ruleIs("feed 1" + times("+1", 60), fault(125, 3));
        ruleIs("feed 1" + times("+1", 59) + "+x", fault(125, 0));
        ruleIs("feed 1" + times("+1", 59) + "+123456", fault(125, 1));
        ruleIs("feed 1" + times("+1", 59) + " if 1=1", fault(128, 3));
        ruleIs("feed 1" + times("+1", 58) + " if 1=1", fault(127, 3));
        ruleIs("feed 1" + times("+1", 57) + " if 1=1", fault(126, 3));
        ruleIs("feed 1" + times("+1", 57) + " if 1 1", fault(126, 0));
        ruleIs("feed 1" + times("+1", 29) + ";feed 1" + times("+1", 30), fault(130, 3));
        ruleIs("feed 1" + times(";feed 1", 12), fault(84, 4));
        ruleIs("feed 1" + times(";feed 1", 11) + ";fed 1", fault(84, 0));
        ruleIs("feed 1" + times(";feed 1", 11) + ";", fault(84, 0));
    }

    // Promise 6
    private static void rulesInForce() {
        RingKiln x = of(ONE, "feed 1", "feed 2");
        Due.is("none was", x.force(1), -1);
        Due.is("1 was", x.force(0), 1);
        Due.is("no rule 2", x.force(2), -2);
        Due.is("no rule -2", x.force(-2), -2);
        Due.is("0 stays", x.count(4), 0);
        Due.is("fed by it", x.day(), 1);
        Due.is("0 was", x.force(-1), 0);
        Due.is("fed by none", x.day(), 4);
        Due.is("none was again", x.force(-1), -1);
    }

    /** How much is FED in DAY 0 of a kiln by a RULE; NEEDS 10, WARM 40. */
    private static void fedIs(String rule, int want) {
        RingKiln x = of("kiln 3 20;clay 7 10;clay 8 11;set 1 0;set 2 1;fire 1", rule);
        x.force(0);
        Due.is("fed by '" + rule + "'", x.day(), want);
    }

    private static void ruleWords() {
        fedIs("feed chamber", 1);
        fedIs("feed warm/5", 8);
        fedIs("feed wet", 7);
        fedIs("feed burnt", 0);
        fedIs("feed needs-3", 7);
        fedIs("feed next*6", 6);
        fedIs("feed damp", 8);
        fedIs("feed glow", 0);
        fedIs("feed coal/3", 6);
        fedIs("feed good", 0);
        fedIs("feed waste", 0);
        fedIs("feed day", 0);
        RingKiln x = of("kiln 3 90;clay 0 60;clay 9 1;set 2 0;fire 2;set 1 1", "feed chamber*2+next", "feed glow",
                "feed burnt/2", "feed day*2", "feed good*8+waste*3", "feed damp");
        Due.is("waste", x.draw(1), 1);
        x.force(0);
        Due.is("chamber 2, next empty", x.day(), 4);
        x.force(1);
        Due.is("glow 6", x.day(), 6);
        x.force(2);
        Due.is("burnt 7 + 8", x.day(), 7);
        x.force(3);
        Due.is("day 3", x.day(), 6);
        x.force(4);
        Due.is("waste 1", x.day(), 3);
        x.force(5);
        Due.is("damp of an empty one", x.day(), 0);
        RingKiln y = of("kiln 3 9;clay 0 9;set 0 0", "feed good*8");
        y.light(0);
        y.day();
        y.day();
        y.day();
        y.force(0);
        y.undo();
        Due.is("no store, nothing fed", y.day(), 0);
    }

    private static void ruleSums() {
        fedIs("feed 2+3*2-1", 7);
        fedIs("feed 8/2/2", 2);
        fedIs("feed 9-3-2", 4);
        fedIs("feed 2*7%4", 2);
        fedIs("feed 7/2*2", 6);
        fedIs("feed 5/0+3", 3);
        fedIs("feed 5%0+2", 2);
        fedIs("feed 0-9", 0);
        fedIs("feed 10", 9);
        fedIs("feed 9", 9);
        fedIs("feed 6+0-7/2", 3);
    }

    // Promises 7, 8 and 9
    private static void told() {
        RingKiln x = of("kiln 4 10;clay 6 9;clay 5 60;set 2 1;set 3 0;fire 3;order 1 4 12;order 0 9 0");
        int[][] chambers = {{-1, 0, 0, 0, 0}, {-1, 0, 0, 0, 0}, {1, 5, 0, 0, 1}, {0, 6, 0, 40, 1}};
        for (int c = 0; c < 4; c++) {
            for (int what = 0; what < 5; what++) {
                Due.is("chamber " + c + ", " + what, x.chamber(c, what), chambers[c][what]);
            }
        }
        int[][] clays = {{6, 9, 0}, {5, 60, 0}};
        int[][] orders = {{1, 4, 12, -1}, {0, 9, 0, -1}};
        for (int k = 0; k < 2; k++) {
            for (int what = 0; what < 3; what++) {
                Due.is("clay " + k + ", " + what, x.clay(k, what), clays[k][what]);
            }
            for (int what = 0; what < 4; what++) {
                Due.is("order " + k + ", " + what, x.order(k, what), orders[k][what]);
            }
        }
        int[][] wrong = {{-1, 0}, {4, 0}, {0, -1}, {0, 5}, {Integer.MIN_VALUE, 0}, {0, Integer.MAX_VALUE}};
        for (int[] w : wrong) {
            Due.is("no chamber", x.chamber(w[0], w[1]), -2);
            Due.is("no clay", x.clay(w[0], w[1]), -1);
            Due.is("no order", x.order(w[0], w[1]), -2);
        }
        Due.is("no clay 2", x.clay(2, 0), -1);
        Due.is("no what 3 of a clay", x.clay(0, 3), -1);
        Due.is("no order 2", x.order(2, 0), -2);
        Due.is("no what 4 of an order", x.order(0, 4), -2);
        RingKiln y = of(ONE);
        int[] kinds = {1, 1, 2, 2, 3};
        for (int day = 0; day < 5; day++) {
            Due.is("kind at day " + day, y.chamber(0, 4), kinds[day]);
            y.day();
        }
        RingKiln z = of("kiln 3 20;clay 0 7;set 0 0;fire 0");
        z.day();
        Due.is("good, just", z.chamber(0, 4), 2);
    }

    // Promise 10
    private static void days() {
        RingKiln x = of(ONE);
        int[] fed = {4, 4, 0, 0, 0};
        int[] warm = {46, 51, 42, 35, 29};
        int[] burnt = {7, 14, 20, 25, 29};
        int[] nextWarm = {6, 11, 9, 7, 5};
        int[] secondWarm = {3, 5, 4, 3, 2};
        for (int day = 0; day < 5; day++) {
            Due.is("fed in day " + day, x.day(), fed[day]);
            Due.is("warm behind day " + day, x.chamber(0, 3), warm[day]);
            Due.is("burnt behind day " + day, x.chamber(0, 2), burnt[day]);
            Due.is("next warm behind day " + day, x.chamber(1, 3), nextWarm[day]);
            Due.is("second warm behind day " + day, x.chamber(2, 3), secondWarm[day]);
            Due.is("fire behind day " + day, x.count(6), day == 0 ? 0 : -1);
            Due.is("day behind day " + day, x.count(5), day + 1);
        }
        Due.is("coal", x.count(7), 12);
        Due.is("empty ones do not burn", x.chamber(1, 2), 0);

        RingKiln little = of("kiln 3 6;clay 30 60;set 2 0;fire 2");
        Due.is("all of 4", little.day(), 4);
        Due.is("what there is", little.day(), 2);
        Due.is("nothing left", little.day(), 0);
        Due.is("round the ring", little.chamber(0, 3) > little.chamber(1, 3) ? 1 : 0, 1);

        RingKiln hot = of("kiln 3 99;clay 30 60;set 0 0;fire 0", "feed 9");
        hot.force(0);
        int[] hotWarm = {63, 82, 82, 82, 82};
        int[] wet = {21, 9, 0, 0, 0};
        int[] hotBurnt = {0, 0, 0, 12, 24};
        for (int day = 0; day < 5; day++) {
            Due.is("hot fed", hot.day(), 9);
            Due.is("hot warm behind day " + day, hot.chamber(0, 3), hotWarm[day]);
            Due.is("hot wet behind day " + day, hot.chamber(0, 1), wet[day]);
            Due.is("hot burnt behind day " + day, hot.chamber(0, 2), hotBurnt[day]);
        }

        RingKiln dying = of("kiln 3 0;clay 30 60;set 0 0;fire 0");
        pass(dying, 10);
        Due.is("warm 5", dying.chamber(0, 3), 5);
        Due.is("not yet out", dying.count(6), 0);
        dying.day();
        Due.is("warm 4", dying.chamber(0, 3), 4);
        Due.is("out", dying.count(6), -1);

        RingKiln ring = of(RING);
        int[] fires = {2, 2, 0, 1};
        for (int day = 0; day < 4; day++) {
            ring.day();
            Due.is("ring: fire behind day " + day, ring.count(6), fires[day]);
        }
        Due.is("ring: burnt at most 200", of("kiln 3 999;clay 0 5;set 0 0;set 1 0;set 2 0;fire 1").ahead(1, 100, 2), 200);
        RingKiln none = of("kiln 3 20;clay 0 10;set 0 0;fire 0", "feed 9 if warm<5");
        none.force(0);
        Due.is("no clause holds", none.day(), 0);
        Due.is("no kiln, no day", new RingKiln().day(), -1);
    }

    /** A kiln whose CHAMBER 1 is WARM 19 or 20 behind DAY 1, by its RULE 0 or 1. */
    private static RingKiln warmBeside(String more, int rule) {
        RingKiln x = of("kiln 4 99;clay 30 60;set 0 0;fire 0" + more, "feed 9 if day=0;feed 4", "feed 9 if day=0;feed 5");
        x.force(rule);
        pass(x, 2);
        Due.is("warm beside", x.chamber(1, 3), rule == 0 ? 19 : 20);
        return x;
    }

    // Promise 11
    private static void sets() {
        RingKiln x = of(EMPTY_ONE);
        Due.is("set", x.set(3, 1), 5);
        Due.is("its clay", x.chamber(3, 0), 1);
        Due.is("its wet", x.chamber(3, 1), 5);
        Due.is("its kind", x.chamber(3, 4), 1);
        Due.is("set again", x.set(3, 0), -1);
        Due.is("a dry one", x.set(0, 0), 0);
        Due.is("no clay 2", x.set(1, 2), -1);
        Due.is("no clay -1", x.set(1, -1), -1);
        Due.is("no chamber 4", x.set(4, 0), -1);
        Due.is("no chamber -1", x.set(-1, 0), -1);
        Due.is("acts", x.count(12), 2);
        Due.is("set ones", x.count(8), 9);
        Due.is("cool enough", warmBeside("", 0).set(1, 0), 30);
        Due.is("too warm", warmBeside("", 1).set(1, 0), -1);
        Due.is("no kiln", new RingKiln().set(0, 0), -1);
    }

    private static void bake(RingKiln x, int chamber, int clay) {
        Kilns.bake(x, chamber, clay);
    }

    // Promise 12
    private static void draws() {
        RingKiln x = of(EMPTY_ONE);
        bake(x, 0, 0);
        Due.is("store", x.clay(0, 2), 1);
        Due.is("store of the other", x.clay(1, 2), 0);
        Due.is("no waste", x.count(10), 0);
        Due.is("empty", x.chamber(0, 0), -1);
        Due.is("not burnt", x.chamber(0, 2), 0);
        Due.is("draw an empty one", x.draw(0), -1);
        Due.is("draw no chamber", x.draw(4), -1);
        Due.is("draw chamber -1", x.draw(-1), -1);
        x.set(1, 1);
        Due.is("raw", x.draw(1), 1);
        Due.is("waste", x.count(10), 1);
        Due.is("not wet", x.chamber(1, 1), 0);

        RingKiln one = of(ONE);
        Due.is("with the fire", one.draw(0), -1);
        pass(one, 7);
        Due.is("too warm at 20", one.draw(0), -1);
        one.day();
        Due.is("clinker", one.draw(0), 3);
        Due.is("to waste", one.count(10), 1);
        Due.is("not to store", one.count(9), 0);
        Due.is("cool enough", warmBeside(";set 1 0", 0).draw(1), 1);
        Due.is("too warm", warmBeside(";set 1 0", 1).draw(1), -1);
        Due.is("no kiln", new RingKiln().draw(0), -1);
        RingKiln fire = of("kiln 3 0;clay 0 60;set 0 0;fire 0");
        pass(fire, 5);
        Due.is("cool", fire.chamber(0, 3), 15);
        Due.is("cool, but with the fire", fire.draw(0), -1);

        RingKiln waste = of(EMPTY_ONE);
        for (int i = 1; i <= 101; i++) {
            waste.set(0, 0);
            Due.is("waste " + i, waste.draw(0), 1);
            Due.is("waste at most 99", waste.count(10), Math.min(99, i));
        }
        storeOfMany();
    }

    /** Round and round until more than 99 were GOOD. */
    private static void storeOfMany() {
        RingKiln x = of("kiln 5 999;clay 0 6;set 0 0;set 1 0;set 2 0;set 3 0;set 4 0;fire 0", "feed 3");
        x.force(0);
        int good = 0;
        for (int round = 0; round < 400 && good < 102; round++) {
            x.day();
            for (int c = 0; c < 5; c++) {
                boolean cool = x.chamber(c, 3) < 20 && x.count(6) != c;
                if (cool && x.chamber(c, 4) >= 2) {
                    good += x.draw(c) == 2 ? 1 : 0;
                    x.set(c, 0);
                }
            }
            if (x.count(6) < 0) {
                x.light(x.count(5) % 5);
            }
            if (x.count(7) < 10) {
                x.buy(99);
            }
        }
        Due.is("many good ones", good, 102);
        Due.is("store at most 99", x.clay(0, 2), 99);
    }

    // Promise 13
    private static void lights() {
        RingKiln x = of(EMPTY_ONE);
        Due.is("light an empty one", x.light(0), -1);
        Due.is("light no chamber", x.light(4), -1);
        Due.is("light chamber -1", x.light(-1), -1);
        x.set(0, 0);
        x.set(1, 0);
        Due.is("light", x.light(0), 30);
        Due.is("fire", x.count(6), 0);
        Due.is("not out", x.light(1), -1);
        Due.is("not out, the same", x.light(0), -1);
        Due.is("acts", x.count(12), 3);
        RingKiln hot = of("kiln 3 99;clay 0 5;set 0 0;fire 0", "feed 9");
        hot.force(0);
        hot.day();
        Due.is("once more", hot.light(0), 93);
        hot.day();
        Due.is("99 at most", hot.light(0), 99);
        Due.is("no kiln", new RingKiln().light(0), -1);
    }

    // Promise 14
    private static void buys() {
        RingKiln x = of(ONE);
        Due.is("buy 1", x.buy(1), 21);
        Due.is("buy 99", x.buy(99), 120);
        Due.is("buy 0", x.buy(0), -1);
        Due.is("buy 100", x.buy(100), -1);
        Due.is("buy -1", x.buy(-1), -1);
        Due.is("coal", x.count(7), 120);
        Due.is("acts", x.count(12), 2);
        RingKiln rich = of("kiln 3 950");
        Due.is("to 999 just", rich.buy(49), 999);
        Due.is("999 at most", rich.buy(99), 999);
        Due.is("an act, too", rich.count(12), 2);
        Due.is("no kiln", new RingKiln().buy(1), -1);
    }

    // Promise 15
    private static void sends() {
        RingKiln x = of(EMPTY_ONE);
        Due.is("no store", x.send(0), -1);
        bake(x, 0, 0);
        int acts = x.count(12);
        Due.is("too few", x.send(1), -1);
        Due.is("none of that clay", x.send(2), -1);
        Due.is("no order 3", x.send(3), -1);
        Due.is("no order -1", x.send(-1), -1);
        Due.is("nothing happened", x.count(12), acts);
        Due.is("sent", x.send(0), 0);
        Due.is("on day", x.order(0, 3), x.count(5));
        Due.is("store", x.clay(0, 2), 0);
        Due.is("sent again", x.send(0), -1);
        bake(x, 1, 0);
        bake(x, 2, 0);
        Due.is("sent again with store", x.send(0), -1);
        Due.is("two", x.send(1), 0);
        Due.is("no kiln", new RingKiln().send(0), -1);
    }

    // Promise 16
    private static void undone() {
        RingKiln x = of(ONE);
        Due.is("none", x.undo(), -2);
        for (int i = 1; i <= 25; i++) {
            x.buy(1);
            Due.is("acts", x.count(12), Math.min(20, i));
        }
        for (int i = 19; i >= 0; i--) {
            Due.is("undo", x.undo(), i);
            Due.is("coal", x.count(7), 25 + i);
        }
        Due.is("no more", x.undo(), -2);
        Due.is("coal stays", x.count(7), 25);

        RingKiln y = of(EMPTY_ONE, "feed 1");
        bake(y, 0, 0);
        int day = y.count(5);
        y.send(0);
        y.seed(9);
        y.note(1, 1);
        y.force(0);
        Due.is("undo send", y.undo() >= 0 ? 1 : 0, 1);
        Due.is("not sent", y.order(0, 3), -1);
        Due.is("store again", y.clay(0, 2), 1);
        Due.is("x is not undone", y.count(13), 9);
        Due.is("notes are not undone", y.count(11), 1);
        Due.is("force is not undone", y.count(4), 0);
        y.undo();
        Due.is("undo draw: store", y.clay(0, 2), 0);
        Due.is("undo draw: burnt", y.chamber(0, 2) >= 9 ? 1 : 0, 1);
        y.undo();
        Due.is("undo day", y.count(5), day - 1);
        for (int i = day - 1; i > 0; i--) {
            y.undo();
        }
        Due.is("fire again", y.count(6), 0);
        Due.is("undo light", y.undo(), 1);
        Due.is("fire out", y.count(6), -1);
        Due.is("cold", y.chamber(0, 3), 0);
        Due.is("undo set", y.undo(), 0);
        Due.is("empty", y.chamber(0, 4), 0);
        Due.is("none left", y.undo(), -2);
    }

    // Promise 17
    private static void ahead() {
        RingKiln x = of(ONE);
        int[] warm = {40, 46, 51, 42, 35, 29, 24, 20, 16};
        int[] burnt = {0, 7, 14, 20, 25, 29, 32, 35, 37};
        for (int n = 0; n < warm.length; n++) {
            Due.is("warm ahead " + n, x.ahead(0, n, 0), warm[n]);
            Due.is("burnt ahead " + n, x.ahead(0, n, 2), burnt[n]);
            Due.is("fire ahead " + n, x.ahead(7, n, 3), n < 2 ? 0 : -1);
            Due.is("coal ahead " + n, x.ahead(-7, n, 4), Math.max(12, 20 - 4 * n));
        }
        Due.is("warm 100 ahead", x.ahead(0, 100, 0), 0);
        Due.is("burnt 100 ahead", x.ahead(0, 100, 2), 42);
        Due.is("empty: wet", x.ahead(1, 3, 1), 0);
        Due.is("empty: burnt", x.ahead(1, 3, 2), 0);
        Due.is("empty: warm", x.ahead(1, 3, 0), 9);
        Due.is("nothing changes", x.count(5), 0);
        Due.is("no act", x.count(12), 0);
        Due.is("101 ahead", x.ahead(0, 101, 0), -2);
        Due.is("-1 ahead", x.ahead(0, -1, 4), -2);
        Due.is("no chamber 3", x.ahead(3, 1, 0), -2);
        Due.is("no chamber -1", x.ahead(-1, 1, 2), -2);
        Due.is("no what 5", x.ahead(0, 1, 5), -2);
        Due.is("no what -1", x.ahead(0, 1, -1), -2);
        Due.is("no kiln", new RingKiln().ahead(0, 0, 4), -2);
        RingKiln wet = of("kiln 3 20;clay 9 10;set 0 0;fire 0");
        Due.is("wet now", wet.ahead(0, 0, 1), 9);
        Due.is("wet then", wet.ahead(0, 1, 1), 2);
        Due.is("dry then", wet.ahead(0, 2, 1), 0);
    }

    // Promises 18 to 22
    private static void firsts() {
        RingKiln x = of(ONE);
        Due.is("out", x.out(), 1);
        Due.is("comes to 0", x.comes(0), -2);
        Due.is("comes to 1", x.comes(1), -2);
        Due.is("ripe", x.ripe(0), 1);
        Due.is("spoilt", x.spoilt(0), 3);
        Due.is("cold 0", x.cold(0), 7);
        Due.is("cold 1", x.cold(1), 0);
        pass(x, 2);
        Due.is("out since", x.out(), 2);
        Due.is("ripe since", x.ripe(0), 2);
        Due.is("spoilt then", x.spoilt(0), 3);
        Due.is("cold then", x.cold(0), 7);
        int[] wrong = {-1, 3, Integer.MAX_VALUE, Integer.MIN_VALUE};
        for (int w : wrong) {
            Due.is("comes without", x.comes(w), -1);
            Due.is("ripe without", x.ripe(w), -1);
            Due.is("spoilt without", x.spoilt(w), -1);
            Due.is("cold without", x.cold(w), -1);
        }
        Due.is("ripe of an empty one", x.ripe(1), -1);
        Due.is("spoilt of an empty one", x.spoilt(1), -1);

        RingKiln ring = of(RING);
        Due.is("comes to 2", ring.comes(2), 0);
        Due.is("comes to 0", ring.comes(0), 2);
        Due.is("comes to 1 again", ring.comes(1), 3);
        RingKiln rich = of("kiln 3 999;clay 0 5;set 0 0;set 1 0;set 2 0;fire 1");
        Due.is("never out", rich.out(), -2);
        pass(rich, 12);
        Due.is("never cold", rich.cold(0), -2);
        RingKiln raw = of("kiln 3 0;clay 0 60;set 0 0;fire 0");
        Due.is("never ripe", raw.ripe(0), -2);
        Due.is("never spoilt", raw.spoilt(0), -2);
        Due.is("cold, but with the fire up to day 10", raw.cold(0), 10);
        Due.is("out behind day 10", raw.out(), 10);
        RingKiln none = new RingKiln();
        Due.is("no kiln: out", none.out(), -1);
        Due.is("no kiln: comes", none.comes(0), -1);
        Due.is("no kiln: cold", none.cold(0), -1);
        Due.is("no fire: out", of("kiln 3 0").out(), 0);
        farDays();
    }

    /** FED round the ring up to a DAY, the FIRE is OUT ten DAYS later: the 200th is looked at, the 201st is not. */
    private static void farDays() {
        RingKiln x = of("kiln 3 999;clay 0 1;set 0 0;set 1 0;set 2 0;fire 0", "feed 4 if day<189", "feed 4 if day<190");
        x.force(0);
        Due.is("out behind the 200th", x.out(), 199);
        x.force(1);
        Due.is("out behind the 201st", x.out(), -2);
        x.day();
        Due.is("out behind the 200th from day 1 on", x.out(), 200);
    }

    // Promise 23
    private static void goods() {
        RingKiln x = of(ONE);
        int[] want = {0, 0, 1, 1, 0};
        for (int n = 0; n < want.length; n++) {
            Due.is("goods " + n, x.goods(n), want[n]);
        }
        Due.is("goods 100", x.goods(100), 0);
        Due.is("goods 101", x.goods(101), -1);
        Due.is("goods -1", x.goods(-1), -1);
        Due.is("no kiln", new RingKiln().goods(0), -1);
        RingKiln two = of("kiln 4 99;clay 0 7;clay 0 2;set 1 0;set 2 1;fire 1", "feed 9");
        two.force(0);
        // DAY 0: CHAMBER 1 is WARM 76, BURNT 9; CHAMBER 2 is WARM 18, BURNT 2
        Due.is("two good ones", two.goods(1), 6);
        Due.is("now", two.goods(0), 0);
    }

    private static void rowIs(RingKiln x, int chamber, int... want) {
        for (int what = 0; what <= 5; what++) {
            int due = what < want.length ? want[what] : -1;
            Due.is("row of " + (want.length - 1) + " days, " + what, x.row(chamber, want.length - 1, what), due);
        }
    }

    // Promise 24
    private static void rows() {
        RingKiln x = of(ONE, "feed 9");
        x.force(0);
        // without COAL it is BURNT 5 9 12; with 3 in DAY 1 it is WARM 33 + 12, BURNT 5 + 5
        rowIs(x, 0, 3, 0, 3);
        rowIs(x, 0, 0, 0, 0, 0);
        rowIs(x, 0, 0, 0, 0, 0, 0, 0);
        for (int what = 0; what <= 5; what++) {
            Due.is("no row of 1 day, " + what, x.row(0, 1, what), -2);
        }
        Due.is("coal stays", x.count(7), 20);
        rowIs(of("kiln 3 2;clay 0 10;set 0 0;fire 0"), 0, 2, 0, 3);
        Due.is("too little coal", of("kiln 3 1;clay 0 11;set 0 0;fire 0").row(0, 2, 0), -2);
        // NEEDS 11: 0, 3 gives 5 + 5, but 3, 0 gives 52 / 8 + 43 / 8
        rowIs(of("kiln 3 99;clay 0 11;set 0 0;fire 0"), 0, 3, 3, 0);
        // NEEDS 12: 0, 6 gives 40 / 8 + 57 / 8; 3, 3 gives 52 / 8 + 55 / 8, and comes later
        rowIs(of("kiln 3 99;clay 0 12;set 0 0;fire 0"), 0, 6, 0, 6);
        // NEEDS 21: 9 in DAY 0 gives 76 / 8 = 9, then WARM 63: with 9, 99 / 8 = 12: 21
        rowIs(of("kiln 3 99;clay 0 21;set 0 0;fire 0"), 0, 18, 9, 9);
        int[][] wrong = {{0, 0, 0}, {0, 6, 0}, {0, -1, 0}, {0, 1, -1}, {0, 1, 6}, {1, 1, 0}, {-1, 1, 0}, {3, 1, 0}};
        for (int[] w : wrong) {
            Due.is("row without", x.row(w[0], w[1], w[2]), -3);
        }
        Due.is("no kiln", new RingKiln().row(0, 1, 0), -3);
        RingKiln out = of("kiln 3 99;clay 0 1;set 0 0");
        Due.is("fire out: none", out.row(0, 5, 0), -2);
        RingKiln ripe = of(ONE);
        pass(ripe, 2);
        rowIs(ripe, 0, 0, 0);
    }

    // Promise 25
    private static void plans() {
        RingKiln x = of("kiln 3 99;clay 9 60;clay 0 5;set 0 1;fire 0");
        Due.is("1 day: none", x.plan(1, 1, 0), -1);
        Due.is("1 day: one good", x.plan(1, 1, 1), 1);
        Due.is("2 days: none", x.plan(1, 2, 0), -1);
        Due.is("2 days: no good", x.plan(1, 2, 1), 0);
        // CLAY 1 in CHAMBER 1: BURNT 1 3 7, GOOD behind the third DAY
        Due.is("3 days: clay 1", x.plan(1, 3, 0), 1);
        Due.is("3 days: one good", x.plan(1, 3, 1), 1);
        Due.is("nothing changes", x.chamber(1, 4), 0);
        RingKiln same = of("kiln 3 99;clay 0 5;clay 0 5;set 0 1;fire 0");
        Due.is("of several the least", same.plan(1, 3, 0), 0);
        Due.is("40 days", x.plan(1, 40, 1) >= 0 ? 1 : 0, 1);
        int[][] wrong = {{1, 0, 0}, {1, 41, 0}, {1, 1, 2}, {1, 1, -1}, {0, 1, 0}, {3, 1, 0}, {-1, 1, 0}};
        for (int[] w : wrong) {
            Due.is("plan without", x.plan(w[0], w[1], w[2]), -2);
        }
        Due.is("no kiln", new RingKiln().plan(0, 1, 0), -2);
        Due.is("no clay: none", of("kiln 3 0").plan(0, 1, 0), -1);
        Due.is("no clay: no good", of("kiln 3 0").plan(0, 1, 1), 0);
        RingKiln warm = warmBeside("", 1);
        Due.is("warm as it is", warm.plan(1, 1, 1), 0);
    }

    /** STORE of CLAY 0 is 2, of CLAY 1 is 2. */
    private static RingKiln stored() {
        RingKiln x = of("kiln 9 0;clay 0 9;clay 0 8;clay 0 7;order 0 2 9;order 0 1 9;order 1 2 9;order 0 1 9");
        bake(x, 0, 0);
        bake(x, 2, 0);
        bake(x, 4, 1);
        bake(x, 6, 1);
        return x;
    }

    // Promise 26
    private static void meets() {
        RingKiln x = stored();
        Due.is("many", x.meet(0), 4);
        Due.is("the least set", x.meet(1), 5);
        Due.is("send 1", x.send(1), 1);
        Due.is("many then", x.meet(0), 3);
        Due.is("without what was sent", x.meet(1), 12);
        Due.is("no what 2", x.meet(2), -1);
        Due.is("no what -1", x.meet(-1), -1);
        Due.is("nothing sent", x.order(2, 3), -1);
        Due.is("no store: many", of(EMPTY_ONE).meet(0), 0);
        Due.is("no store: set", of(EMPTY_ONE).meet(1), 0);
        Due.is("no kiln", new RingKiln().meet(0), -1);
    }

    // Promise 27
    private static void late() {
        RingKiln x = of("kiln 3 0;clay 0 9;order 0 1 0;order 0 1 4;order 0 1 5;order 0 1 99");
        Due.is("none on its day", x.late(), 0);
        x.day();
        Due.is("0 behind its day", x.late(), 1);
        x.undo();
        bake(x, 0, 0);
        Due.is("baked", x.count(5), 4);
        Due.is("day 4", x.late(), 1);
        Due.is("send on its day", x.send(1), 0);
        pass(x, 2);
        Due.is("sent in time, and 2 late", x.late(), 5);
        bake(x, 1, 0);
        Due.is("send late", x.send(2), 0);
        Due.is("late for ever", x.late(), 5);
        Due.is("no orders", of("kiln 3 0").late(), 0);
        Due.is("no kiln", new RingKiln().late(), -1);
    }

    private static final int[][] NO_CLAY = {{-1, 0}, {1, 0}, {0, 2}, {0, -1}, {Integer.MAX_VALUE, 0}};

    // Promise 28
    private static void needs() {
        RingKiln x = of(ONE, "feed 0");
        Due.is("no notes: all", x.need(0, 0), 60);
        Due.is("no notes: 1", x.need(0, 1), 1);
        x.note(0, 0);
        x.note(1, -1);
        Due.is("8 to 14", x.need(0, 0), 7);
        Due.is("8", x.need(0, 1), 8);
        pass(x, 3);
        x.buy(9);
        Due.is("from the begin on", x.need(0, 0), 7);
        x.force(0);
        Due.is("by the rule: 6 to 9", x.need(0, 0), 4);
        Due.is("by the rule: 6", x.need(0, 1), 6);
        Due.is("needs stay", x.clay(0, 1), 10);
        x.note(0, -1);
        Due.is("not at all", x.need(0, 0), 0);
        Due.is("no least", x.need(0, 1), -2);
        for (int[] w : NO_CLAY) {
            Due.is("need without", x.need(w[0], w[1]), -1);
        }
        Due.is("no kiln", new RingKiln().need(0, 0), -1);
        RingKiln word = of(ONE, "feed needs");
        word.force(0);
        word.note(0, -1);
        // FED what it NEEDS: 40 + 4 * NEEDS, an eighth is NEEDS or more up to 9
        Due.is("the word needs, too", word.need(0, 0), 9);
    }

    // Promise 29
    private static void damps() {
        RingKiln x = of(ONE, "feed 0");
        Due.is("no notes: all", x.damp(0, 0), 31);
        Due.is("no notes: 0", x.damp(0, 1), 0);
        x.note(1, 0);
        x.note(2, -1);
        Due.is("1 to 7", x.damp(0, 0), 7);
        Due.is("1", x.damp(0, 1), 1);
        pass(x, 3);
        Due.is("from the begin on", x.damp(0, 0), 7);
        x.force(0);
        // BURNT 5 9 12 if it is dry; if not, 0 4 7 or less behind DAY 2
        Due.is("by the rule: 0 alone", x.damp(0, 0), 1);
        Due.is("by the rule: 0", x.damp(0, 1), 0);
        Due.is("wet stays", x.clay(0, 0), 0);
        x.note(0, -1);
        Due.is("not at all", x.damp(0, 0), 0);
        Due.is("no least", x.damp(0, 1), -2);
        for (int[] w : NO_CLAY) {
            Due.is("damp without", x.damp(w[0], w[1]), -1);
        }
        Due.is("no kiln", new RingKiln().damp(0, 0), -1);
    }

    private static void restsAre(RingKiln x, int one, int other, int n, int... want) {
        for (int what = 0; what < 3; what++) {
            Due.is("rests of " + n + " days, " + what, x.rests(one, other, n, what), want[what]);
        }
    }

    // Promise 30
    private static void rests() {
        RingKiln x = of("kiln 4 99;clay 0 5;clay 0 2;set 0 0;fire 0");
        // CHAMBER 1 is BURNT 1 by either CLAY, CHAMBER 2 is BURNT 0
        restsAre(x, 1, 2, 1, 6, 0, -1);
        restsAre(x, 2, 1, 1, 6, -1, 0);
        RingKiln hot = of("kiln 4 99;clay 0 1;set 0 0;fire 0", "feed 9");
        hot.force(0);
        // CHAMBER 1, if SET, takes the FIRE and is CLINKER, BURNT 8; if not, CHAMBER 2 has 1
        restsAre(hot, 1, 2, 2, 1, -1, 0);
        restsAre(hot, 2, 1, 2, 1, 0, -1);
        RingKiln none = of("kiln 3 999;clay 4 10;clay 0 8;set 0 1;fire 0", "feed 5");
        none.force(0);
        restsAre(none, 1, 2, 8, 0, -2, -2);
        restsAre(of("kiln 3 0"), 0, 2, 20, 1, -1, -1);
        // CLINKER that is BURNT 30 has as much as an EMPTY one
        RingKiln thirty = of("kiln 6 279;clay 29 6;set 0 0;set 1 0;fire 0", "feed 9");
        thirty.force(0);
        restsAre(thirty, 2, 4, 11, 4, -1, -1);
        int[][] wrong = {{1, 1, 1, 0}, {0, 1, 1, 0}, {1, 0, 1, 0}, {1, 4, 1, 0}, {-1, 1, 1, 0}, {1, 2, 0, 0},
            {1, 2, 21, 0}, {1, 2, 1, 3}, {1, 2, 1, -1}};
        for (int[] w : wrong) {
            Due.is("rests without", x.rests(w[0], w[1], w[2], w[3]), -3);
        }
        Due.is("no kiln", new RingKiln().rests(0, 1, 1, 0), -3);
        Due.is("nothing changes", x.count(8), 1);
    }

    // Promise 31
    private static void alike() {
        RingKiln x = of(ONE);
        // CHAMBER 0 is WARM 16 at the begin of DAY 8, then 13 10 8 6 5 4 3 2 1 0
        Due.is("day", x.alike(0), 18);
        Due.is("later", x.alike(1), 1);
        pass(x, 5);
        Due.is("day, from day 5", x.alike(0), 18);
        pass(x, 15);
        Due.is("this day", x.alike(0), 20);
        Due.is("no what 2", x.alike(2), -1);
        Due.is("no what -1", x.alike(-1), -1);
        Due.is("no kiln", new RingKiln().alike(0), -1);
        // COAL and STORE may differ: a FIRE that is fed the same round and round
        RingKiln ring = of("kiln 3 999;clay 0 1;set 0 0;set 1 0;set 2 0;fire 0");
        pass(ring, 60);
        Due.is("round the ring", ring.alike(0), 60);
        Due.is("thrice", ring.alike(1), 3);
        StringBuilder nine = new StringBuilder("kiln 9 999;clay 30 60;fire 0");
        for (int c = 0; c < 9; c++) {
            nine.insert(nine.indexOf(";fire"), ";set " + c + " 0");
        }
        RingKiln slow = of(nine.toString());
        Due.is("not within 60 days", slow.alike(0), -2);
        Due.is("no later", slow.alike(1), -2);
    }

    // Promise 32
    private static void pence() {
        RingKiln x = stored();
        Due.is("2 and 2: 5 for clay 0", x.pence(5, 0), 3);
        Due.is("2 and 2: 5 for clay 1", x.pence(5, 1), 2);
        Due.is("nothing for clay 2", x.pence(5, 2), 0);
        Due.is("0", x.pence(0, 0), 0);
        Due.is("9999", x.pence(9999, 0), 5000);
        Due.is("9999, the other", x.pence(9999, 1), 4999);
        bake(x, 8, 2);
        Due.is("2, 2, 1: 6.8", x.pence(17, 0), 7);
        Due.is("2, 2, 1: 6.8", x.pence(17, 1), 7);
        Due.is("2, 2, 1: 3.4", x.pence(17, 2), 3);
        Due.is("2, 2, 1: 3.2", x.pence(8, 0), 3);
        Due.is("2, 2, 1: 3.2", x.pence(8, 1), 3);
        Due.is("2, 2, 1: 1.6", x.pence(8, 2), 2);
        Due.is("2, 2, 1: 1.2", x.pence(3, 1), 1);
        Due.is("2, 2, 1: 0.6", x.pence(3, 2), 1);
        Due.is("10000", x.pence(10000, 0), -1);
        Due.is("-1", x.pence(-1, 0), -1);
        Due.is("no clay 3", x.pence(1, 3), -1);
        Due.is("no clay -1", x.pence(1, -1), -1);
        Due.is("no store", of(ONE).pence(100, 0), 0);
        Due.is("no kiln", new RingKiln().pence(1, 0), -1);
    }

    // Promise 33
    private static void notes() {
        RingKiln x = of(ONE);
        for (int i = 1; i <= 10; i++) {
            Due.is("note " + i, x.note(i == 2 ? 60 : 0, i == 3 ? -1 : i % 3), i);
        }
        Due.is("an eleventh", x.note(0, 0), -2);
        Due.is("ten", x.count(11), 10);
        Due.is("none then", x.note(-1, 99), 0);
        Due.is("none", x.count(11), 0);
        int[][] wrong = {{61, 0}, {-2, 0}, {0, 3}, {0, -2}, {Integer.MIN_VALUE, 0}, {0, Integer.MAX_VALUE}};
        for (int[] w : wrong) {
            Due.is("note without", x.note(w[0], w[1]), -2);
        }
        Due.is("still none", x.count(11), 0);
        Due.is("no kiln", new RingKiln().note(0, 0), -2);
        Due.is("no kiln, out", new RingKiln().note(0, -1), -2);
        Due.is("no kiln, none", new RingKiln().note(-1, 0), 0);
    }

    /** The FIRE is OUT behind DAY 1 by none and RULE 1, behind DAY 2 by RULE 0. */
    private static RingKiln twoRules() {
        return of(ONE, "feed 0", "feed 9");
    }

    // Promise 34
    private static void ruled() {
        RingKiln x = twoRules();
        Due.is("all", x.ruled(0), 3);
        Due.is("none first", x.ruled(1), -1);
        x.note(1, -1);
        Due.is("two", x.ruled(0), 2);
        Due.is("none is one of them", x.ruled(1), -1);
        x.note(-1, 0);
        x.note(1, 0);
        x.note(60, -1);
        Due.is("one", x.ruled(0), 1);
        Due.is("rule 0", x.ruled(1), 0);
        x.force(1);
        pass(x, 2);
        Due.is("whatever is in force", x.ruled(1), 0);
        x.note(0, 2);
        Due.is("not one", x.ruled(0), 0);
        Due.is("no first", x.ruled(1), -2);
        Due.is("no what 2", x.ruled(2), -3);
        Due.is("no what -1", x.ruled(-1), -3);
        Due.is("no kiln", new RingKiln().ruled(0), -3);
    }

    // Promise 35
    private static void looks() {
        RingKiln x = twoRules();
        Due.is("day 1 parts them", x.look(0), 1);
        Due.is("two alike", x.look(1), 2);
        x.note(1, 0);
        Due.is("one: day 0", x.look(0), 0);
        Due.is("one alike", x.look(1), 1);
        x.note(1, 1);
        Due.is("none so: day", x.look(0), -2);
        Due.is("none so: how many", x.look(1), -2);
        Due.is("no what 2", x.look(2), -1);
        Due.is("no what -1", x.look(-1), -1);
        Due.is("no kiln", new RingKiln().look(0), -1);
        // OUT behind DAY 60 or 61 by RULE 0 or 1, else round the ring alike
        String ring = "kiln 3 999;clay 0 1;set 0 0;set 1 0;set 2 0;fire 0";
        RingKiln last = of(ring, "feed 4 if day<50");
        Due.is("day 60", last.look(0), 60);
        Due.is("parted", last.look(1), 1);
        RingKiln beyond = of(ring, "feed 4 if day<51");
        Due.is("not before day 61", beyond.look(0), 0);
        Due.is("alike", beyond.look(1), 2);
        RingKiln same = of(ONE, "feed 4", "feed 2+2");
        Due.is("all alike: day", same.look(0), 0);
        Due.is("all alike", same.look(1), 3);
    }

    // Promise 36
    private static void seeds() {
        RingKiln x = new RingKiln();
        Due.is("0 at first", x.seed(5), 0);
        Due.is("5 was", x.seed(Integer.MAX_VALUE), 5);
        Due.is("the most", x.count(13), Integer.MAX_VALUE);
        Due.is("below 0", x.seed(-1), -1);
        Due.is("the least", x.seed(Integer.MIN_VALUE), -1);
        Due.is("stays", x.seed(0), Integer.MAX_VALUE);
    }

    // Promise 37
    private static void rains() {
        // CHAMBER 0 is GOOD behind DAY 0 (BURNT 7), if no rain came on it
        RingKiln x = of("kiln 3 20;clay 0 5;set 0 0;set 1 0;set 2 0;fire 0");
        Due.is("no rain", x.rains(1, 1, 0, 0), 1);
        Due.is("no rain, ten times", x.rains(10, 1, 0, 0), 10);
        Due.is("warm 46 + 6 + 3", x.rains(1, 1, 0, 1), 55);
        Due.is("warm, ten times", x.rains(10, 1, 100, 1), 550);
        // x 0: it rains on 0 1 1 1 1 1 2 0 1 0
        Due.is("rain on 0", x.rains(1, 1, 100, 0), 0);
        Due.is("rain on 0, then 1", x.rains(2, 1, 100, 0), 1);
        Due.is("ten times", x.rains(10, 1, 100, 0), 7);
        Due.is("x as it was", x.count(13), 0);
        // the first DRAWS mod 100, from x 0 on, with p 50: rain on 0, none, on 0, 1, 2, 0, none ..
        Due.is("with p 50", x.rains(6, 1, 50, 0), 3);
        x.seed(1);
        // x 1: the first DRAW mod 100 is 38, it rains on 1 1 2 0 0 2 0 2 0 0
        Due.is("another x", x.rains(10, 1, 100, 0), 5);
        Due.is("not below 38", x.rains(1, 1, 38, 0), 1);
        x.seed(3);
        Due.is("47: below 48, on 0", x.rains(1, 1, 48, 0), 0);
        Due.is("47: not below 47", x.rains(1, 1, 47, 0), 1);
        Due.is("nothing changes", x.count(5), 0);
        int[][] wrong = {{0, 1, 0, 0}, {11, 1, 0, 0}, {1, 0, 0, 0}, {1, 61, 0, 0}, {1, 1, -1, 0}, {1, 1, 101, 0},
            {1, 1, 0, 2}, {1, 1, 0, -1}};
        for (int[] w : wrong) {
            Due.is("rains without", x.rains(w[0], w[1], w[2], w[3]), -1);
        }
        Due.is("no kiln", new RingKiln().rains(1, 1, 0, 0), -1);
        RingKiln burnt = of("kiln 3 20;clay 0 7;set 0 0;fire 0", "feed 0");
        burnt.force(0);
        // without COAL it is BURNT 5 9; what is BURNT gets no wetter
        burnt.day();
        Due.is("rain on what is burnt", burnt.rains(1, 1, 100, 0), 1);
        // CHAMBERS 1 and 2 are rained on for weeks ahead of the heat; WET 61 would be a DAY too much once
        RingKiln wet = of("kiln 3 999;clay 29 31;clay 30 9;set 0 0;set 1 1;set 2 1;fire 0",
                "feed 1 if warm<9 and day<34;feed 0 if day<34;feed 6");
        wet.force(0);
        wet.seed(433);
        Due.is("60 at most", wet.rains(10, 46, 88, 0), 5);
    }

    // Promise 38
    private static void counts() {
        RingKiln x = of("kiln 5 30;clay 1 2;clay 3 4;set 1 0;set 4 1;fire 4;order 0 1 1", "feed 1", "feed 2");
        x.force(1);
        x.day();
        x.note(4, 4);
        x.note(5, 4);
        x.seed(99);
        x.feed(0, 0, 0, 0, 0);
        int[] want = {5, 2, 1, 2, 1, 1, 4, 28, 18, 0, 0, 2, 1, 99, 20};
        for (int i = 0; i < want.length; i++) {
            Due.is("count " + i, x.count(i), want[i]);
        }
        int[] others = {-1, 15, 16, Integer.MAX_VALUE, Integer.MIN_VALUE};
        for (int w : others) {
            Due.is("no count", x.count(w), -1);
        }
        RingKiln s = stored();
        Due.is("store of all", s.count(9), 4);
    }

    // Promises 39 and 40
    private static void images() {
        RingKiln x = of(ONE, "feed 1");
        Due.is("never made", x.back(0), -1);
        x.force(0);
        x.seed(8);
        x.note(1, 1);
        pass(x, 3);
        Due.is("image", x.image(3), 3);
        int[] want = new int[14];
        for (int i = 0; i < 14; i++) {
            want[i] = x.count(i);
        }
        pass(x, 2);
        x.undo();
        x.force(-1);
        x.seed(1);
        x.note(2, 2);
        Texts.tell(x, "kiln 9 9;clay 1 1;set 8 0");
        x.kiln();
        Texts.tell(x, "feed 5");
        x.rule();
        x.feed(1, 2, 3, 4, 5);
        want[3] = 2;
        for (int again = 0; again < 2; again++) {
            Due.is("back", x.back(3), 3);
            for (int i = 0; i < 14; i++) {
                Due.is("back: count " + i, x.count(i), want[i]);
            }
            Due.is("the tape stays", x.count(14), 20);
            Due.is("undone from there", x.undo(), 2);
            Due.is("to day 2", x.count(5), 2);
            Due.is("undo", x.undo(), 1);
            Due.is("undo", x.undo(), 0);
            Due.is("warm as at first", x.chamber(0, 3), 40);
        }
        Due.is("image 0 was never made", x.back(0), -1);
        imagesOfNotesAndActs();
        int[] wrong = {-1, 4, Integer.MAX_VALUE, Integer.MIN_VALUE};
        for (int w : wrong) {
            Due.is("no image", x.image(w), -1);
            Due.is("no back", x.back(w), -1);
        }
        Due.is("made anew", x.image(3), 0);
        x.day();
        Due.is("back to the new one", x.back(3), 0);
        RingKiln none = new RingKiln();
        Due.is("of no kiln", none.image(1), 0);
        Texts.tell(none, ONE);
        none.kiln();
        none.day();
        Due.is("back to no kiln", none.back(1), 0);
        Due.is("no chambers", none.count(0), 0);
        Due.is("no fire", none.count(6), -1);
    }

    /** What comes later, more than can be undone, is not seen in an IMAGE. */
    private static void imagesOfNotesAndActs() {
        RingKiln x = twoRules();
        x.note(1, 0);
        x.note(0, 0);
        for (int i = 1; i <= 22; i++) {
            x.buy(i);
        }
        x.image(0);
        x.note(-1, 0);
        x.note(2, 2);
        x.note(3, 1);
        for (int i = 0; i < 33; i++) {
            x.buy(99);
        }
        Due.is("coal then", x.count(7), 999);
        x.back(0);
        Due.is("notes", x.count(11), 2);
        Due.is("by the notes of the image", x.ruled(0), 1);
        Due.is("rule 0", x.ruled(1), 0);
        int coal = 20 + 22 * 23 / 2;
        for (int i = 22; i >= 3; i--) {
            Due.is("coal", x.count(7), coal);
            Due.is("undone in the image", x.undo(), i - 3);
            coal -= i;
        }
        Due.is("coal at last", x.count(7), 23);
        Due.is("no more", x.undo(), -2);
    }
}
