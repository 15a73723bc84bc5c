/**
 * 'NONE, and nothing happens', '-2, and nothing happens', 'and all stays', 'by what is asked nothing changes': behind each
 * call that is refused, and each question, all is as without it.
 */
public final class RefusedCalls {
    private static final int MOST = Integer.MAX_VALUE;
    private static final int LEAST = Integer.MIN_VALUE;

    public static void main(String[] args) {
        theYardIsAsMeant();
        feed();
        end();
        kiln();
        rule();
        force();
        day();
        set();
        draw();
        light();
        buy();
        send();
        undo();
        note();
        seed();
        imageAndBack();
        withoutAKiln();
        questions();
        questionsRefused();
        Due.end();
    }

    /**
     * CHAMBER 0 EMPTY and cold, 3 SET and WARM, 4 with the FIRE, 5 EMPTY and WARM, 7 SET and cold; ORDER 0 SENT, 1 of more
     * than there is STORE, 2 of a CLAY without STORE, 3 could be SENT; two RULES, 1 IN FORCE; more than 20 ACTS, three
     * NOTES, IMAGES 0 and 2, x, and a KILN on the TAPE.
     */
    private static RingKiln yard() {
        RingKiln x = Kilns.of("kiln 9 300;clay 0 9;clay 5 20;clay 0 60;order 0 1 3;order 0 2 50;order 2 1 0;order 0 1 99",
                "feed 0", "feed 9");
        x.force(0);
        Kilns.bake(x, 0, 0);
        x.image(0);
        x.send(0);
        Kilns.bake(x, 1, 0);
        x.set(7, 2);
        x.set(8, 1);
        x.draw(8);
        x.set(3, 0);
        x.set(4, 1);
        x.light(3);
        x.force(1);
        x.note(3, -1);
        x.note(60, -1);
        x.image(2);
        Kilns.pass(x, 4);
        x.buy(40);
        x.note(0, -1);
        x.seed(77);
        Texts.tell(x, "kiln 5 6;clay 1 2;set 4 0");
        return x;
    }

    private static RingKiln yardWithoutFire() {
        RingKiln x = yard();
        x.force(0);
        for (int i = 0; i < 40 && x.count(6) >= 0; i++) {
            x.day();
        }
        Due.is("out", x.count(6), -1);
        return x;
    }

    private static RingKiln yardWithRuleOnTheTape(int rules) {
        RingKiln x = yard();
        for (int i = 2; i < rules; i++) {
            x.end(0);
            Texts.tell(x, "feed " + i + " if day>" + i);
            Due.is("rule " + i, x.rule(), i);
        }
        x.end(0);
        Texts.tell(x, "feed 3 if warm<80;feed 7");
        return x;
    }

    private static void theYardIsAsMeant() {
        RingKiln x = yard();
        Due.is("0 is empty", x.chamber(0, 4), 0);
        Due.holds("and cool", x.chamber(0, 3) < 20);
        Due.holds("3 is set and warm", x.chamber(3, 4) > 1 && x.chamber(3, 3) >= 20);
        Due.is("the fire is in 4", x.count(6), 4);
        Due.is("5 is empty", x.chamber(5, 4), 0);
        Due.holds("and warm", x.chamber(5, 3) >= 20);
        Due.is("7 is set", x.chamber(7, 4), 1);
        Due.is("and cold", x.chamber(7, 3), 0);
        Due.holds("0 is sent", x.order(0, 3) >= 0);
        Due.is("store", x.clay(0, 2), 1);
        Due.is("waste", x.count(10), 1);
        Due.is("acts", x.count(12), 20);
        Due.is("notes", x.count(11), 3);
        Due.is("x", x.count(13), 77);
        Due.is("3 could be sent", x.send(3), 0);
    }

    private static void refused(String call, int due, Twins.Call asked) {
        Twins.nothingHappens(call, due, RefusedCalls::yard, asked);
    }

    private static void feed() {
        Due.under("NONE, and none comes, if it would have more than 400.");
        for (int blanks = 373; blanks <= 392; blanks += 19) {
            String text = " ".repeat(blanks) + "kiln 4 5";
            Twins.Made made = () -> {
                RingKiln x = yard();
                x.end(0);
                Texts.tell(x, text);
                return x;
            };
            Twins.nothingHappens("feed at " + text.length(), -1, made, x -> x.feed(1, 2, 3, 4, 5));
            Twins.nothingHappens("feed of blanks at " + text.length(), -1, made,
                    x -> x.feed(0x20202020, 0x20202020, 0x20202020, 0x20202020, 0x20202020));
        }
    }

    private static void end() {
        Due.under("NONE, and nothing happens, if it has not so many, or n is below 0.");
        int[] wrong = {-1, 26, 40, 400, LEAST, MOST};
        Due.is("bytes", yard().count(14), 25);
        for (int n : wrong) {
            refused("end of " + n, -1, x -> x.end(n));
        }
        Twins.nothingHappens("end of all", 25, RefusedCalls::yard, x -> x.end(25));
    }

    private static void kiln() {
        Due.under("-2 - its FAULT, and all stays.");
        String[] texts = {"", "kiln", "kiln 3 9;clay 1 1;clay 2 2;set 0 1;fire 0;order 1 1 1;x", "kiln 2 0",
            "kiln 3 0;clay 1 1;clay 1 1;clay 1 1;clay 1 1", "clay 1 1"};
        int[] faults = {Kilns.fault(0, 0), Kilns.fault(4, 0), Kilns.fault(54, 0), Kilns.fault(5, 1), Kilns.fault(36, 4),
            Kilns.fault(0, 4)};
        for (int i = 0; i < texts.length; i++) {
            String text = texts[i];
            int fault = faults[i];
            // the TAPE is empty then, else all is as it was
            Twins.areAlike("kiln of '" + text + "'", () -> {
                RingKiln x = yard();
                x.end(0);
                Texts.tell(x, text);
                Due.is("kiln of '" + text + "'", x.kiln(), fault);
                return x;
            }, RefusedCalls::yardWithEmptyTape);
        }
    }

    private static RingKiln yardWithEmptyTape() {
        RingKiln x = yard();
        x.end(0);
        return x;
    }

    private static void rule() {
        Due.under("-2 - its FAULT; NONE, and nothing happens: there are 6.");
        Twins.nothingHappens("a seventh rule", -1, () -> yardWithRuleOnTheTape(6), x -> x.rule());
        Twins.nothingHappens("a seventh rule with a fault", -1, () -> {
            RingKiln x = yardWithRuleOnTheTape(6);
            x.end(7);
            return x;
        }, x -> x.rule());
        String[] texts = {"feed 9;feed 9;", "feed 1" + "+1".repeat(60), "feed 1 if 1=1 and [not 1=1"};
        int[] faults = {Kilns.fault(14, 0), Kilns.fault(125, 3), Kilns.fault(26, 0)};
        for (int i = 0; i < texts.length; i++) {
            String text = texts[i];
            int fault = faults[i];
            Twins.areAlike("rule of '" + text + "'", () -> {
                RingKiln x = yardWithEmptyTape();
                Texts.tell(x, text);
                Due.is("rule of '" + text + "'", x.rule(), fault);
                return x;
            }, RefusedCalls::yardWithEmptyTape);
        }
    }

    private static void force() {
        Due.under("-2, and nothing happens, if there is none such.");
        int[] wrong = {2, 5, 6, -2, LEAST, MOST};
        for (int rule : wrong) {
            refused("force " + rule, -2, x -> x.force(rule));
        }
    }

    /** Beyond 512 calls nothing is promised, but the program keeps to it. */
    private static void day() {
        Due.under("NONE, and nothing happens, without a KILN, or at DAY 999.");
        Twins.nothingHappens("a day at day 999", -1, () -> {
            RingKiln x = yard();
            for (int i = 0; i < 1000; i++) {
                x.day();
            }
            x.light(7);
            x.buy(3);
            Due.is("day", x.count(5), 999);
            return x;
        }, x -> x.day());
    }

    private static void set() {
        Due.under("SET: how WET it is; NONE, and nothing happens, without these.");
        int[][] wrong = {{3, 0}, {4, 0}, {7, 1}, {5, 0}, {9, 0}, {-1, 0}, {0, 3}, {0, -1}, {LEAST, 0}, {MOST, 0}, {0, LEAST},
            {0, MOST}};
        for (int[] w : wrong) {
            refused("set " + w[0] + ", " + w[1], -1, x -> x.set(w[0], w[1]));
        }
    }

    private static void draw() {
        Due.under("DRAW: 1 RAW, 2 GOOD, 3 CLINKER, as it was; NONE, and nothing happens, without these.");
        int[] wrong = {0, 3, 4, 5, 9, -1, LEAST, MOST};
        for (int c : wrong) {
            refused("draw " + c, -1, x -> x.draw(c));
        }
        RingKiln cool = coolFire();
        Due.holds("cool, but with the fire", cool.chamber(0, 3) < 20 && cool.count(6) == 0);
        Twins.nothingHappens("draw a cool one with the fire", -1, RefusedCalls::coolFire, x -> x.draw(0));
    }

    private static RingKiln coolFire() {
        RingKiln x = Kilns.of("kiln 3 0;clay 30 60;set 0 0;fire 0");
        Kilns.pass(x, 6);
        return x;
    }

    private static void light() {
        Due.under("LIGHT: how WARM it is then; NONE, and nothing happens, without these.");
        int[] burning = {0, 3, 4, 7, 9, -1};
        for (int c : burning) {
            refused("light " + c + " while it burns", -1, x -> x.light(c));
        }
        int[] out = {0, 5, 9, -1, LEAST, MOST};
        for (int c : out) {
            Twins.nothingHappens("light " + c, -1, RefusedCalls::yardWithoutFire, x -> x.light(c));
        }
    }

    private static void buy() {
        Due.under("BUY: COAL then; NONE, and nothing happens, without these, or a KILN.");
        int[] wrong = {0, 100, -1, -99, LEAST, MOST};
        for (int coal : wrong) {
            refused("buy " + coal, -1, x -> x.buy(coal));
        }
    }

    private static void send() {
        Due.under("SEND: STORE of its CLAY then; NONE, and nothing happens, without these.");
        int[] wrong = {0, 1, 2, 4, -1, LEAST, MOST};
        for (int order : wrong) {
            refused("send " + order, -1, x -> x.send(order));
        }
    }

    private static void undo() {
        Due.under("-2, and nothing happens: none can.");
        Twins.Made made = () -> {
            RingKiln x = yard();
            for (int i = 0; i < 20; i++) {
                Due.is("undo", x.undo(), 19 - i);
            }
            return x;
        };
        Twins.nothingHappens("undo", -2, made, x -> x.undo());
        Twins.nothingHappens("undo without an act", -2, () -> Kilns.of("kiln 3 7;clay 1 1;set 0 0;fire 0"), x -> x.undo());
    }

    private static void note() {
        Due.under("-2, and nothing happens, without these (chamber NONE: OUT), or a KILN, or if there are 10.");
        int[][] wrong = {{61, 0}, {-2, 0}, {0, 9}, {0, -2}, {LEAST, 0}, {MOST, 0}, {0, LEAST}, {0, MOST}};
        for (int[] w : wrong) {
            refused("note " + w[0] + ", " + w[1], -2, x -> x.note(w[0], w[1]));
        }
        Twins.Made ten = () -> {
            RingKiln x = yard();
            for (int i = 4; i <= 10; i++) {
                Due.is("note", x.note(i, -1), i);
            }
            return x;
        };
        Twins.nothingHappens("an eleventh note", -2, ten, x -> x.note(0, 0));
        Twins.nothingHappens("an eleventh note, out", -2, ten, x -> x.note(1, -1));
    }

    private static void seed() {
        Due.under("NONE, and nothing happens, below 0.");
        int[] wrong = {-1, -77, LEAST};
        for (int below : wrong) {
            refused("seed " + below, -1, x -> x.seed(below));
        }
        Twins.nothingHappens("seed of what it is", 77, RefusedCalls::yard, x -> x.seed(77));
    }

    private static void imageAndBack() {
        Due.under("NONE, and nothing happens, if it was never made, or without it.");
        int[] never = {1, 3, 4, -1, LEAST, MOST};
        for (int k : never) {
            refused("back " + k, -1, x -> x.back(k));
        }
        Due.under("An IMAGE is made: the DAY; NONE without it.");
        int[] wrong = {4, -1, LEAST, MOST};
        for (int k : wrong) {
            refused("image " + k, -1, x -> x.image(k));
        }
    }

    private static void bare(String call, int due, Twins.Call asked) {
        Twins.nothingHappens(call + " without a kiln", due, () -> {
            RingKiln x = new RingKiln();
            x.seed(5);
            Texts.tell(x, "feed 2");
            x.rule();
            x.force(0);
            x.image(1);
            Texts.tell(x, "kiln 5 6;clay 1 2;set 4 0");
            return x;
        }, asked);
    }

    private static void withoutAKiln() {
        Due.under("without a KILN");
        bare("day", -1, x -> x.day());
        bare("set", -1, x -> x.set(0, 0));
        bare("draw", -1, x -> x.draw(0));
        bare("light", -1, x -> x.light(0));
        bare("buy", -1, x -> x.buy(1));
        bare("send", -1, x -> x.send(0));
        bare("undo", -2, x -> x.undo());
        bare("note", -2, x -> x.note(0, 0));
        bare("note out", -2, x -> x.note(0, -1));
        bare("note none", 0, x -> x.note(-1, 0));
        bare("ahead", -2, x -> x.ahead(0, 0, 3));
        bare("out", -1, x -> x.out());
        bare("comes", -1, x -> x.comes(0));
        bare("ripe", -1, x -> x.ripe(0));
        bare("spoilt", -1, x -> x.spoilt(0));
        bare("cold", -1, x -> x.cold(0));
        bare("goods", -1, x -> x.goods(0));
        bare("row", -3, x -> x.row(0, 1, 0));
        bare("plan", -2, x -> x.plan(0, 1, 0));
        bare("meet", -1, x -> x.meet(0));
        bare("late", -1, x -> x.late());
        bare("need", -1, x -> x.need(0, 0));
        bare("damp", -1, x -> x.damp(0, 0));
        bare("rests", -3, x -> x.rests(0, 1, 1, 0));
        bare("alike", -1, x -> x.alike(0));
        bare("pence", -1, x -> x.pence(1, 0));
        bare("ruled", -3, x -> x.ruled(0));
        bare("look", -1, x -> x.look(0));
        bare("rains", -1, x -> x.rains(1, 1, 0, 0));
        bare("chamber", -2, x -> x.chamber(0, 0));
        bare("clay", -1, x -> x.clay(0, 0));
        bare("order", -2, x -> x.order(0, 0));
    }

    private static void asked(String call, Twins.Call question) {
        int answer = question.on(yard());
        Due.holds(call + " is answered", answer >= -2);
        Twins.nothingHappens(call, answer, RefusedCalls::yard, question);
        int again = question.on(yardWithoutFire());
        Twins.nothingHappens(call + " without the fire", again, RefusedCalls::yardWithoutFire, question);
    }

    private static void questions() {
        Due.under("By what is asked nothing changes");
        for (int i = 0; i < 5; i++) {
            int what = i;
            asked("ahead " + what, x -> x.ahead(4, 100, what));
            asked("row " + what, x -> x.row(7, 5, what));
            asked("chamber " + what, x -> x.chamber(3, what));
        }
        asked("out", x -> x.out());
        asked("comes", x -> x.comes(3));
        asked("ripe", x -> x.ripe(7));
        asked("spoilt", x -> x.spoilt(3));
        asked("cold", x -> x.cold(3));
        asked("goods", x -> x.goods(100));
        asked("late", x -> x.late());
        for (int i = 0; i < 2; i++) {
            int what = i;
            asked("plan " + what, x -> x.plan(0, 40, what));
            asked("plan of a warm one " + what, x -> x.plan(5, 40, what));
            asked("meet " + what, x -> x.meet(what));
            asked("need " + what, x -> x.need(1, what));
            asked("damp " + what, x -> x.damp(1, what));
            asked("rests " + what, x -> x.rests(5, 6, 20, what));
            asked("alike " + what, x -> x.alike(what));
            asked("pence " + what, x -> x.pence(9999, what));
            asked("ruled " + what, x -> x.ruled(what));
            asked("look " + what, x -> x.look(what));
            asked("rains " + what, x -> x.rains(10, 60, 100, what));
            asked("clay " + what, x -> x.clay(2, what));
            asked("order " + what, x -> x.order(3, what));
            asked("count " + what, x -> x.count(14 - what));
        }
    }

    private static void questionsRefused() {
        Due.under("without these");
        refused("ahead 101", -2, x -> x.ahead(0, 101, 0));
        refused("ahead of chamber 9", -2, x -> x.ahead(9, 1, 0));
        refused("ahead what 5", -2, x -> x.ahead(0, 1, 5));
        refused("comes to 9", -1, x -> x.comes(9));
        refused("ripe of an empty one", -1, x -> x.ripe(0));
        refused("spoilt of an empty one", -1, x -> x.spoilt(0));
        refused("cold of -1", -1, x -> x.cold(-1));
        refused("goods 101", -1, x -> x.goods(101));
        refused("row of an empty one", -3, x -> x.row(0, 1, 0));
        refused("row of 6 days", -3, x -> x.row(7, 6, 0));
        refused("plan of one that is set", -2, x -> x.plan(7, 1, 0));
        refused("plan for 41 days", -2, x -> x.plan(0, 41, 0));
        refused("meet 2", -1, x -> x.meet(2));
        refused("need of clay 3", -1, x -> x.need(3, 0));
        refused("damp of clay 3", -1, x -> x.damp(3, 0));
        refused("rests of one", -3, x -> x.rests(0, 0, 1, 0));
        refused("rests for 21 days", -3, x -> x.rests(0, 1, 21, 0));
        refused("alike 2", -1, x -> x.alike(2));
        refused("pence 10000", -1, x -> x.pence(10000, 0));
        refused("ruled 2", -3, x -> x.ruled(2));
        refused("look 2", -1, x -> x.look(2));
        refused("rains 11 times", -1, x -> x.rains(11, 1, 1, 0));
        refused("count 15", -1, x -> x.count(15));
        refused("chamber 9", -2, x -> x.chamber(9, 0));
        refused("clay 3", -1, x -> x.clay(3, 0));
        refused("order 4", -2, x -> x.order(4, 0));
    }
}
