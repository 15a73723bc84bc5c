/** The edges that the document names for the TAPE, the KILN and the RULES as texts, and their FAULTS. */
public final class EdgesOfTexts {
    private static final String KILN = "kiln 3 20;clay 7 10;clay 8 11;set 1 0;set 2 1;fire 1";

    public static void main(String[] args) {
        newObject();
        feedTwentyBytes();
        feedBehindTheTape();
        feedBeyond400();
        endCuts();
        endRefused();
        kilnOf400Bytes();
        kilnOfFortyClauses();
        kilnNumbers();
        kilnOnceAndFirst();
        clayNumbers();
        setNumbers();
        fireNumbers();
        orderNumbers();
        threeClaysFourOrders();
        kilnAtFirst();
        kilnInPlaceOfAnother();
        ruleOf400Bytes();
        twelveClauses();
        digits();
        wordsGoOn();
        wordsOfTheFire();
        wordsOfTheNext();
        wordsOfAll();
        blanks();
        tenDeep();
        sixtyParts();
        sixtyPartsOfEach();
        theFirstFault();
        theLeastOfOnePlace();
        theEnd();
        bytesBesideThoseThatCanStand();
        signs();
        joints();
        firstClauseThatHolds();
        byZeroAndTowardsZero();
        goesRound();
        sixRules();
        ruleBehindAFault();
        forced();
        Due.end();
    }

    private static int fault(int place, int kind) {
        return Kilns.fault(place, kind);
    }

    private static void kilnIs(String text, int want) {
        Kilns.kilnIs(text, want);
    }

    private static void ruleIs(String text, int want) {
        Kilns.ruleIs(text, want);
    }

    private static String times(String part, int n) {
        return Kilns.times(part, n);
    }

    /** How much is FED by a RULE in DAY 0: FIRE in CHAMBER 1, WARM 40, WET 7, NEEDS 10, COAL 20. */
    private static void fedIs(String rule, int want) {
        Due.is("fed by '" + rule + "'", Kilns.under(rule, KILN).day(), want);
    }

    private static void holds(String test, boolean so) {
        fedIs("feed 5 if " + test + ";feed 2", so ? 5 : 2);
    }

    private static void newObject() {
        Due.under("No KILN, no RULES, none IN FORCE.");
        RingKiln x = new RingKiln();
        Due.is("chambers", x.count(0), 0);
        Due.is("rules", x.count(3), 0);
        Due.is("in force", x.count(4), -1);
        Due.is("fire", x.count(6), -1);
        Due.is("x", x.count(13), 0);
        Due.is("bytes", x.count(14), 0);
    }

    private static void feedTwentyBytes() {
        Due.under("Twenty bytes come behind the TAPE, of each number the highest first: how many it has");
        RingKiln x = new RingKiln();
        // "kiln", " 9 1", "23;c", "lay ", "4 56"
        Due.is("one feed", x.feed(0x6b696c6e, 0x20392031, 0x32333b63, 0x6c617920, 0x34203536), 20);
        Due.is("all twenty are read", x.kiln(), 1);
        Due.is("chambers", x.count(0), 9);
        Due.is("coal", x.count(7), 123);
        Due.is("wet", x.clay(0, 0), 4);
        Due.is("needs", x.clay(0, 1), 56);
        for (int place = 0; place < 20; place++) {
            int[] numbers = {0x20202020, 0x20202020, 0x20202020, 0x20202020, 0x20202020};
            numbers[place / 4] |= 0xe0 << 24 - place % 4 * 8;
            Due.is("feed of byte " + place, x.feed(numbers[0], numbers[1], numbers[2], numbers[3], numbers[4]), 20);
            Due.is("a byte of 224 at " + place, x.kiln(), fault(place, 0));
        }
    }

    private static void feedBehindTheTape() {
        Due.under("Twenty bytes come behind the TAPE");
        RingKiln x = new RingKiln();
        Texts.tell(x, "kiln 5 77;clay 11 22");
        Due.is("a second feed", x.feed(0x3b636c61, 0x79203333, 0x20202020, 0x20202020, 0x20202020), 40);
        Due.is("fault of the second", x.kiln(), fault(26, 1));
        Texts.tell(x, "kiln 5 77;clay 11 22");
        Due.is("again", x.feed(0x3b636c61, 0x79203320, 0x34202020, 0x20202020, 0x20202020), 40);
        Due.is("two clays", x.kiln(), 2);
        Due.is("the second one's needs", x.clay(1, 1), 4);
    }

    private static void feedBeyond400() {
        Due.under("NONE, and none comes, if it would have more than 400.");
        RingKiln x = new RingKiln();
        Texts.tell(x, times(" ", 372) + "kiln 3 7");
        Due.is("380", x.count(14), 380);
        Due.is("to 400 just", x.feed(0x20202020, 0x20202020, 0x20202020, 0x20202020, 0x20202020), 400);
        Due.is("beyond 400", x.feed(0, 0, 0, 0, 0), -1);
        Due.is("none came", x.count(14), 400);
        Due.is("nor in place of others", x.kiln(), 0);
        Texts.tell(x, times(" ", 373) + "kiln 3 7");
        Due.is("one byte too many", x.feed(0, 0, 0, 0, 0), -1);
        Due.is("not even as far as there is room", x.count(14), 381);
        Due.is("and the text is as it was", x.kiln(), 0);
        Due.is("then there is room again", x.feed(0, 0, 0, 0, 0), 20);
    }

    private static void endCuts() {
        Due.under("The TAPE has its first n bytes alone: n");
        RingKiln x = new RingKiln();
        x.feed(0x6b696c6e, 0x20332037, 0x39787878, 0x78787878, 0x78787878);
        Due.is("all of them", x.end(20), 20);
        Due.is("nine", x.end(9), 9);
        Due.is("eight", x.end(8), 8);
        Due.is("eight has it", x.count(14), 8);
        Due.is("kiln 3 7", x.kiln(), 0);
        Due.is("coal", x.count(7), 7);
        Due.is("none of none", x.end(0), 0);
        x.feed(0x78787878, 0x78787878, 0x78787878, 0x78787878, 0x78787878);
        Due.is("none", x.end(0), 0);
        x.feed(0x6b696c6e, 0x20342038, 0x20202020, 0x20202020, 0x20202020);
        Due.is("what was cut is gone", x.kiln(), 0);
        Due.is("coal of the later", x.count(7), 8);
        // what was cut is not read, though it would go on
        Due.is("a digit", cut("kiln 3 99", 8).kiln(), 0);
        Due.is("a letter", cut("feed waste", 9).rule(), fault(5, 0));
        Due.is("a letter too many", cut("feed warms", 9).rule(), 0);
        Due.is("a sign", cut("feed 1 if 1<=1", 12).rule(), fault(12, 0));
        Due.is("a clause", cut("kiln 3 0;x", 8).kiln(), 0);
        Due.is("a blank", cut("kiln   ", 5).kiln(), fault(5, 0));
    }

    private static RingKiln cut(String text, int n) {
        RingKiln x = new RingKiln();
        Texts.tell(x, text);
        Due.is("cut", x.end(n), n);
        return x;
    }

    private static void endRefused() {
        Due.under("NONE, and nothing happens, if it has not so many, or n is below 0.");
        RingKiln x = new RingKiln();
        Due.is("one of none", x.end(1), -1);
        Texts.tell(x, "kiln 3 7");
        int[] wrong = {9, 20, 400, -1, Integer.MAX_VALUE, Integer.MIN_VALUE};
        for (int n : wrong) {
            Due.is("end of " + n, x.end(n), -1);
            Due.is("bytes", x.count(14), 8);
        }
        Due.is("the text is as it was", x.kiln(), 0);
    }

    private static void kilnOf400Bytes() {
        Due.under("A KILN is a text of at most 400 bytes");
        kilnIs(times(" ", 392) + "kiln 3 7", 0);
        kilnIs("kiln 3 7" + times(" ", 392), 0);
        kilnIs(times(" ", 399) + "k", fault(399, 0));
        kilnIs(times(" ", 400), fault(400, 0));
        kilnIs("kiln 3 0;clay 1 1" + times(" ", 382) + ";", fault(400, 0));
    }

    private static void kilnOfFortyClauses() {
        Due.under("CLAUSE { ; CLAUSE }, 40 at most");
        StringBuilder most = new StringBuilder("kiln 9 0;clay 0 1;clay 0 1;clay 0 1");
        for (int c = 0; c < 9; c++) {
            most.append(";set ").append(c).append(" 2");
        }
        most.append(";fire 8").append(times(";order 2 9 99", 4));
        // 18 CLAUSES are all that can be told without another FAULT
        kilnIs(most.toString(), 3);
        int behind = most.length() + 1;
        kilnIs(most + ";kiln 9 0", fault(behind, 4));
        kilnIs(most + ";clay 0 1", fault(behind, 4));
        kilnIs(most + ";fire 8", fault(behind, 4));
        kilnIs(most + ";order 2 9 99", fault(behind, 4));
        kilnIs(most + ";set 8 2", fault(behind + 4, 1));
        kilnIs("kiln 9 0" + times(";set 0 0", 41), fault(15, 1));
    }

    private static void kilnNumbers() {
        Due.under("kiln NUMBER NUMBER (CHAMBERS 3 to 9; COAL 0 to 999");
        kilnIs("kiln 2 0", fault(5, 1));
        kilnIs("kiln 0 0", fault(5, 1));
        kilnIs("kiln 3 0", 0);
        kilnIs("kiln 9 0", 0);
        kilnIs("kiln 10 0", fault(5, 1));
        kilnIs("kiln 99999 0", fault(5, 1));
        kilnIs("kiln 3 999", 0);
        kilnIs("kiln 3 1000", fault(7, 1));
        Due.is("nine chambers", Kilns.of("kiln 9 0").chamber(8, 4), 0);
        Due.is("no tenth", Kilns.of("kiln 9 0").chamber(9, 4), -2);
        Due.is("no fourth", Kilns.of("kiln 3 0").chamber(3, 4), -2);
        Due.is("no coal", Kilns.of("kiln 3 0").count(7), 0);
        Due.is("most coal", Kilns.of("kiln 3 999").count(7), 999);
    }

    private static void kilnOnceAndFirst() {
        Due.under("once, the first CLAUSE");
        kilnIs("kiln 3 0", 0);
        Due.under("a second kiln, another CLAUSE ahead of it");
        kilnIs("kiln 3 0;kiln 3 0", fault(9, 4));
        kilnIs("kiln 3 0;clay 1 1;kiln 3 0", fault(18, 4));
        kilnIs("clay 1 1;kiln 3 0", fault(0, 4));
        kilnIs("set 0 0;kiln 3 0", fault(0, 4));
        kilnIs("fire 0;kiln 3 0", fault(0, 4));
        kilnIs("  order 0 1 1;kiln 3 0", fault(2, 4));
        kilnIs(";kiln 3 0", fault(0, 0));
        kilnIs("feed 1;kiln 3 0", fault(0, 0));
    }

    private static void clayNumbers() {
        Due.under("clay NUMBER NUMBER (WET 0 to 30; NEEDS 1 to 60)");
        kilnIs("kiln 3 0;clay 0 1", 1);
        kilnIs("kiln 3 0;clay 30 60", 1);
        kilnIs("kiln 3 0;clay 31 60", fault(14, 1));
        kilnIs("kiln 3 0;clay 0 0", fault(16, 1));
        kilnIs("kiln 3 0;clay 0 61", fault(16, 1));
        Due.is("wet", Kilns.of("kiln 3 0;clay 30 60").clay(0, 0), 30);
        Due.is("needs", Kilns.of("kiln 3 0;clay 30 60").clay(0, 1), 60);
    }

    private static void setNumbers() {
        Due.under("set NUMBER NUMBER (a CHAMBER that was not told so far; a CLAY that was)");
        kilnIs("kiln 3 0;clay 1 1;set 0 0;set 2 0", 1);
        kilnIs("kiln 3 0;clay 1 1;set 3 0", fault(22, 1));
        kilnIs("kiln 4 0;clay 1 1;set 3 0", 1);
        kilnIs("kiln 3 0;clay 1 1;set 0 0;set 0 0", fault(30, 1));
        kilnIs("kiln 3 0;clay 1 1;set 0 0;set 1 0;set 0 0", fault(38, 1));
        kilnIs("kiln 3 0;set 0 0", fault(15, 1));
        kilnIs("kiln 3 0;set 0 0;clay 1 1", fault(15, 1));
        kilnIs("kiln 3 0;clay 1 1;set 0 1;clay 1 1", fault(24, 1));
        kilnIs("kiln 3 0;clay 1 1;clay 1 1;clay 1 1;set 0 2", 3);
        kilnIs("kiln 3 0;clay 1 1;clay 1 1;clay 1 1;set 0 3", fault(42, 1));
        // what a text that was refused told does not count for the next
        RingKiln x = new RingKiln();
        Texts.tell(x, "kiln 3 0;clay 1 1;set 0 0;fire 0;order 0 1 1;x");
        Due.is("refused", x.kiln(), fault(45, 0));
        Texts.tell(x, "kiln 3 0;clay 1 1;set 0 0;fire 0;order 0 1 1");
        Due.is("the same again", x.kiln(), 1);
        Texts.tell(x, "kiln 3 0;clay 1 1;set 0 0;fire 0;order 0 1 1");
        Due.is("and again", x.kiln(), 1);
        Texts.tell(x, "kiln 3 0");
        Due.is("and less", x.kiln(), 0);
        Due.is("no fire", x.count(6), -1);
        Due.is("no order", x.count(2), 0);
        Due.is("none set", x.count(8), 0);
        Texts.tell(x, "clay 1 1");
        Due.is("no chambers of the text before", x.kiln(), fault(0, 4));
    }

    private static void fireNumbers() {
        Due.under("fire NUMBER (a CHAMBER that was SET so; once)");
        kilnIs("kiln 3 0;clay 1 1;set 2 0;fire 2", 1);
        kilnIs("kiln 3 0;clay 1 1;set 2 0;fire 1", fault(31, 1));
        kilnIs("kiln 3 0;clay 1 1;set 2 0;fire 1;set 1 0", fault(31, 1));
        kilnIs("kiln 3 0;clay 1 1;set 2 0;fire 3", fault(31, 1));
        kilnIs("kiln 9 0;clay 1 1;set 8 0;fire 9", fault(31, 1));
        kilnIs("kiln 9 0;clay 1 1;set 8 0;fire 10", fault(31, 1));
        kilnIs("kiln 3 0;clay 1 1;set 2 0;fire 2;fire 2", fault(33, 4));
        kilnIs("kiln 3 0;clay 1 1;set 0 0;fire 0;set 1 0;fire 1", fault(41, 4));
        Due.is("fire in 0", Kilns.of("kiln 3 0;clay 1 1;set 0 0;fire 0;set 1 0").count(6), 0);
    }

    private static void orderNumbers() {
        Due.under("order NUMBER NUMBER NUMBER (a CLAY that was told; MANY 1 to 9; DUE 0 to 99)");
        kilnIs("kiln 3 0;clay 1 1;order 0 1 0", 1);
        kilnIs("kiln 3 0;clay 1 1;order 0 9 99", 1);
        kilnIs("kiln 3 0;clay 1 1;order 0 0 0", fault(26, 1));
        kilnIs("kiln 3 0;clay 1 1;order 0 10 0", fault(26, 1));
        kilnIs("kiln 3 0;clay 1 1;order 0 9 100", fault(28, 1));
        kilnIs("kiln 3 0;clay 1 1;order 1 9 99", fault(24, 1));
        kilnIs("kiln 3 0;order 0 9 99;clay 1 1", fault(15, 1));
        kilnIs("kiln 3 0;clay 1 1;clay 1 1;clay 1 1;order 2 1 1", 3);
        kilnIs("kiln 3 0;clay 1 1;clay 1 1;clay 1 1;order 3 1 1", fault(42, 1));
    }

    private static void threeClaysFourOrders() {
        Due.under("CLAYS 0 to 2, ORDERS 0 to 3, in the order told.");
        RingKiln x = Kilns.of("kiln 3 0;clay 1 2;order 0 1 5;clay 3 4;order 1 2 6;clay 5 6;order 2 3 7;order 0 4 8");
        for (int k = 0; k < 3; k++) {
            Due.is("wet of " + k, x.clay(k, 0), 1 + 2 * k);
            Due.is("needs of " + k, x.clay(k, 1), 2 + 2 * k);
        }
        for (int k = 0; k < 4; k++) {
            Due.is("clay of " + k, x.order(k, 0), k % 3);
            Due.is("many of " + k, x.order(k, 1), 1 + k);
            Due.is("due of " + k, x.order(k, 2), 5 + k);
        }
        Due.under("a fourth CLAY, a second fire, a fifth ORDER (at its first byte)");
        kilnIs("kiln 3 0" + times(";clay 1 1", 3), 3);
        kilnIs("kiln 3 0" + times(";clay 1 1", 3) + "; clay 99 99", fault(37, 4));
        kilnIs("kiln 3 0;clay 1 1" + times(";order 0 1 1", 4), 1);
        kilnIs("kiln 3 0;clay 1 1" + times(";order 0 1 1", 4) + ";order", fault(66, 4));
        kilnIs("kiln 3 0;clay 1 1;set 0 0;fire 0;fire", fault(33, 4));
    }

    private static void kilnAtFirst() {
        Due.under("a CHAMBER that was SET is as WET as its CLAY, BURNT 0; all others are EMPTY; that with the FIRE is "
                + "WARM 40, all others 0; without it the FIRE is OUT.");
        RingKiln x = Kilns.of("kiln 9 0;clay 30 1;clay 0 1;set 8 0;set 0 1;fire 8");
        for (int c = 0; c < 9; c++) {
            Due.is("clay in " + c, x.chamber(c, 0), c == 8 ? 0 : c == 0 ? 1 : -1);
            Due.is("wet in " + c, x.chamber(c, 1), c == 8 ? 30 : 0);
            Due.is("burnt in " + c, x.chamber(c, 2), 0);
            Due.is("warm in " + c, x.chamber(c, 3), c == 8 ? 40 : 0);
            Due.is("kind of " + c, x.chamber(c, 4), c == 8 || c == 0 ? 1 : 0);
        }
        Due.is("fire", x.count(6), 8);
        RingKiln out = Kilns.of("kiln 9 0;clay 30 1;set 8 0");
        Due.is("no fire", out.count(6), -1);
        Due.is("none is warm", out.chamber(8, 3) + out.chamber(0, 3), 0);
        Due.under("There is no STORE, no WASTE, no ORDER is SENT.");
        RingKiln y = Kilns.of("kiln 4 0;clay 0 9;clay 0 9;order 0 1 9;order 0 1 9");
        Kilns.bake(y, 0, 0);
        Due.is("sent", y.send(0), 0);
        y.set(2, 1);
        y.draw(2);
        Texts.tell(y, "kiln 4 0;clay 0 9;clay 0 9;order 0 1 9;order 0 1 9");
        Due.is("the same once more", y.kiln(), 2);
        Due.is("day", y.count(5), 0);
        Due.is("store", y.count(9), 0);
        Due.is("waste", y.count(10), 0);
        Due.is("not sent", y.order(0, 3), -1);
        Due.is("cold", y.chamber(0, 3), 0);
        Due.is("empty", y.count(8), 0);
    }

    private static void kilnInPlaceOfAnother() {
        Due.under("The TAPE, which is empty then, is the KILN in place of the one there was (no NOTES, nothing to be "
                + "UNDONE; the RULE IN FORCE and x stay): how many CLAYS");
        RingKiln x = Kilns.under("feed 3", KILN);
        x.note(1, 1);
        x.note(0, 0);
        x.seed(123456);
        x.day();
        x.buy(5);
        x.image(1);
        Texts.tell(x, "kiln 5 9;clay 1 1;set 0 0;fire 0");
        Due.is("how many clays", x.kiln(), 1);
        Due.is("the tape is empty", x.count(14), 0);
        Due.is("chambers", x.count(0), 5);
        Due.is("no notes", x.count(11), 0);
        Due.is("none of the old notes counts", x.need(0, 0), 60);
        Due.is("nothing to be undone", x.count(12), 0);
        Due.is("undo", x.undo(), -2);
        Due.is("the rule in force", x.count(4), 0);
        Due.is("fed by it", x.ahead(0, 1, 4), 6);
        Due.is("x", x.count(13), 123456);
        Due.is("the image is of the old one", x.back(1), 1);
        Due.is("with its chambers", x.count(0), 3);
        Due.is("and its notes", x.count(11), 2);
    }

    private static void ruleOf400Bytes() {
        Due.under("RULES 0 to 5: texts likewise");
        ruleIs(times(" ", 394) + "feed 7", 0);
        ruleIs("feed 7" + times(" ", 394), 0);
        ruleIs(times(" ", 400), fault(400, 0));
        ruleIs("feed 1" + times(" ", 393) + "+", fault(400, 0));
        // 60 VALUES and FACTS and 400 bytes
        String long400 = "feed chamber" + times("+chamber", 48);
        fedIs(long400 + times(" ", 399 - long400.length()) + " ", 9);
        fedIs(times(" ", 390) + "feed 1 + 2", 3);
    }

    private static void twelveClauses() {
        Due.under("12 CLAUSES at most");
        ruleIs("feed 1" + times(";feed 1", 11), 0);
        Due.under("4 one CLAUSE too many");
        ruleIs("feed 1" + times(";feed 1", 12), fault(84, 4));
        ruleIs("feed 1" + times(";feed 1", 11) + ";  feed", fault(86, 4));
        ruleIs("feed 1" + times(";feed 1", 20), fault(84, 4));
        fedIs(times("feed 1 if 1=2;", 11) + "feed 7", 7);
        fedIs(times("feed 1 if 1=2;", 11) + "feed 7 if 1=2", 0);
        fedIs(times("feed 1 if 1=2;", 11) + "feed 7 if 1=1", 7);
    }

    private static void digits() {
        Due.under("NUMBER (1 to 5 digits, as far as digits go on)");
        ruleIs("feed 0", 0);
        ruleIs("feed 99999", 0);
        ruleIs("feed 00000", 0);
        ruleIs("feed 100000", fault(5, 1));
        ruleIs("feed 000000", fault(5, 1));
        ruleIs("feed 1+" + times("9", 393), fault(7, 1));
        fedIs("feed 00007", 7);
        fedIs("feed 90000/10000", 9);
        fedIs("feed 12345-12340", 5);
        fedIs("feed 99999-99990-1", 8);
        kilnIs("kiln 00003 00000", 0);
        Due.under("1 a NUMBER of more digits, or not as told");
        kilnIs("kiln 000003 0", fault(5, 1));
        kilnIs("kiln 3 000000", fault(7, 1));
        kilnIs("kiln 3 0;clay 000001 1", fault(14, 1));
        ruleIs("feed 12 3", fault(8, 0));
        kilnIs("kiln 3 1 2", fault(9, 0));
        kilnIs("kiln 33", fault(5, 1));
    }

    private static void wordsGoOn() {
        Due.under("WORDS (small letters, as far as these go on)");
        String[] words = {"chamber", "warm", "wet", "burnt", "needs", "next", "damp", "glow", "coal", "good", "waste",
            "day"};
        for (String word : words) {
            ruleIs("feed " + word, 0);
            ruleIs("feed " + word.substring(0, word.length() - 1), fault(5, 0));
            ruleIs("feed " + word + "s", fault(5, 0));
            ruleIs("feed " + word + "z", fault(5, 0));
            ruleIs("feed a" + word, fault(5, 0));
            ruleIs("feed " + word + word, fault(5, 0));
            ruleIs("feed " + word + "2", fault(5 + word.length(), 0));
            ruleIs("feed 1+" + word.toUpperCase(), fault(7, 0));
            kilnIs("kiln 3 0;" + word + " 1 1", fault(9, 0));
        }
        String[] heads = {"kiln", "clay", "set", "fire", "order", "feed", "if", "not", "and", "or"};
        for (String head : heads) {
            ruleIs("feed " + head, fault(5, 0));
            ruleIs("feed 1+" + head + "z", fault(7, 0));
        }
        ruleIs("feedwarm", fault(0, 0));
        ruleIs("feed1", 0);
        ruleIs("feed 1 if1=1and1=1or1=1", 0);
        ruleIs("feed 1 if notwarm=1", fault(10, 0));
        ruleIs("feed 1 if 1=1andnot 1=1", fault(13, 0));
        kilnIs("kiln3 0;clay1 1;set0 0;fire0;order0 1 1", 1);
        kilnIs("kil 3 0", fault(0, 0));
        kilnIs("kilnn 3 0", fault(0, 0));
    }

    private static void wordsOfTheFire() {
        Due.under("of the CHAMBER with the FIRE: chamber, warm, wet, burnt, needs (NEEDS of its CLAY)");
        String[] words = {"chamber", "warm", "wet", "burnt", "needs"};
        int[] lit = {7, 30, 6, 0, 17};
        // WET 6 - 3 - 3, then BURNT 20 / 8
        int[] later = {7, 16, 0, 2, 17};
        for (int i = 0; i < words.length; i++) {
            fedFiveIf(words[i] + "=" + lit[i], 0);
            fedFiveIf(words[i] + "=" + later[i], 3);
        }
        fedIs("feed needs-3", 7);
    }

    private static void wordsOfAll() {
        Due.under("coal, good (STORE of all CLAYS, together), waste, day");
        String[] words = {"coal", "good", "waste", "day"};
        int[] want = {23, 3, 1, 11};
        for (int i = 0; i < words.length; i++) {
            fedFiveIf(words[i] + "=" + want[i], 0);
            fedFiveIf(words[i] + "<" + (want[i] + 1) + " and " + words[i] + ">" + (want[i] - 1), 0);
        }
        fedIs("feed coal", 9);
        fedIs("feed good+waste+day", 0);
    }

    /** By DAY 11 two GOOD ones of CLAY 0, one of CLAY 2 and one RAW one were drawn, and CHAMBER 7 is lit. */
    private static void fedFiveIf(String test, int days) {
        RingKiln x = Kilns.of("kiln 9 23;clay 0 9;clay 6 17;clay 0 8", "feed 0", "feed 5 if " + test);
        x.force(0);
        Kilns.bake(x, 0, 0);
        Kilns.bake(x, 2, 2);
        Kilns.bake(x, 4, 0);
        x.set(8, 1);
        x.draw(8);
        x.set(7, 1);
        x.light(7);
        Kilns.pass(x, days);
        x.force(1);
        Due.is("fed if " + test, x.day(), 5);
    }

    private static void wordsOfTheNext() {
        Due.under("of the next CHAMBER: next (1 if it is SET, else 0), damp (how WET it is, 0 if EMPTY), glow (how WARM it is)");
        // FED 9 in DAY 0: the next one WARM 15, WET 7 - 2
        String rule = "feed 9 if day=0;feed ";
        String set = "kiln 4 99;clay 30 60;clay 7 9;set 2 0;set 3 1;fire 2";
        String empty = "kiln 4 99;clay 30 60;set 2 0;fire 2";
        String[] tests = {"3 if next=1", "3 if damp=5", "3 if glow=15"};
        for (String test : tests) {
            RingKiln x = Kilns.under(rule + test, set);
            x.day();
            Due.is(test, x.day(), 3);
        }
        String[] none = {"3 if next=0", "3 if damp=0", "3 if glow=15"};
        for (String test : none) {
            RingKiln x = Kilns.under(rule + test, empty);
            x.day();
            Due.is(test + " of an empty one", x.day(), 3);
            RingKiln drawn = Kilns.under(rule + test, set);
            drawn.day();
            Due.is("drawn", drawn.draw(3), 1);
            Due.is(test + " of one that was drawn", drawn.day(), 3);
        }
    }

    private static void blanks() {
        Due.under("Blanks (32) stand between as one likes.");
        fedIs("  feed   2   *  3   if   [  1  <=  1  ]  ;  feed  9  ", 6);
        fedIs("feed2*3if[1<=1];feed9", 6);
        ruleIs("feed\t1", fault(4, 0));
        ruleIs("feed\n1", fault(4, 0));
        ruleIs("feed\u00001", fault(4, 0));
        ruleIs("feed\u00a01", fault(4, 0));
        ruleIs("feed!1", fault(4, 0));
        ruleIs("fe ed 1", fault(0, 0));
        ruleIs("feed wa rm", fault(5, 0));
        ruleIs("feed 1 if 1 < = 1", fault(14, 0));
        ruleIs("feed 1 if 1 > = 1", fault(14, 0));
        ruleIs("feed 1 if 1 >=1", 0);
        kilnIs("  kiln   3   0  ;  clay  1  1  ", 1);
        kilnIs("kiln 3\u00000", fault(6, 0));
    }

    private static void tenDeep() {
        Due.under("[ and not lie within one another 10 deep at most");
        ruleIs("feed 1 if " + times("[", 10) + "1=1" + times("]", 10), 0);
        ruleIs("feed 1 if " + times("not ", 10) + "1=1", 0);
        ruleIs("feed 1 if " + times("not[", 5) + "1=1" + times("]", 5), 0);
        Due.under("2 too deep (at the sign that opens, or the word not)");
        ruleIs("feed 1 if " + times("[", 11) + "1=1" + times("]", 11), fault(20, 2));
        ruleIs("feed 1 if " + times("not ", 11) + "1=1", fault(50, 2));
        ruleIs("feed 1 if " + times("not[", 5) + "not 1=1", fault(30, 2));
        ruleIs("feed 1 if " + times("not[", 5) + "[1=1", fault(30, 2));
        ruleIs("feed 1 if not " + times("[", 9) + "not 1=1", fault(23, 2));
        ruleIs("feed 1 if " + times("[", 9) + "not [1=1", fault(23, 2));
        ruleIs("feed 1 if " + times("[", 9) + "not not 1=1", fault(23, 2));
        // beside one another they are not within one another
        ruleIs("feed 1 if 1=1" + times(" and [not [1=1]]", 15), 0);
        ruleIs("feed 1 if " + times("[", 9) + "[1=1] and [1=1] or not 1=1" + times("]", 9), 0);
        ruleIs("feed 1 if " + times("[", 9) + "1=1" + times("]", 9) + " and " + times("[", 10) + "1=1"
                + times("]", 10), 0);
        holds(times("not ", 10) + "1=1", true);
        holds(times("not ", 9) + "1=1", false);
        holds(times("not[", 5) + "1=1" + times("]", 5), false);
        holds(times("[", 10) + "1=2" + times("]", 10), false);
    }

    private static void sixtyParts() {
        Due.under("3 one VALUE or FACT too many (at its first byte; of a FACT at its SIGN)");
        ruleIs("feed 1" + times("+1", 59), 0);
        ruleIs("feed 1" + times("+1", 59) + " + 1", fault(127, 3));
        ruleIs("feed 1" + times("*1", 59) + "+warm", fault(125, 3));
        // 57 VALUES, then a FACT: 58, 59, 60
        ruleIs("feed 1" + times("+1", 56) + " if 1=1", 0);
        ruleIs("feed 1" + times("+1", 57) + " if 1=1", fault(126, 3));
        ruleIs("feed 1" + times("+1", 57) + " if 1 >= warm", fault(129, 3));
        ruleIs("feed 1" + times("+1", 58) + " if 1 <= 1", fault(128, 3));
        ruleIs("feed 1" + times("+1", 59) + " if warm = 1", fault(128, 3));
        ruleIs("feed 1" + times("+1", 53) + " if 1=1 and 1=1", 0);
        ruleIs("feed 1" + times("+1", 53) + " if 1=1 and 1=1 and 2=2", fault(132, 3));
        // not, brackets, and, or are neither VALUES nor FACTS
        ruleIs("feed 1" + times("+1", 53) + " if not [[1=1]] and [not 1=1]", 0);
    }

    private static void sixtyPartsOfEach() {
        Due.under("at most 60 VALUES (of SUMS) and FACTS made of a SIGN, together");
        ruleIs("feed 1" + times("+1", 29) + ";feed 1" + times("+1", 29), 0);
        ruleIs("feed 1" + times("+1", 29) + ";feed 1" + times("+1", 30), fault(130, 3));
        RingKiln x = new RingKiln();
        for (int i = 0; i < 6; i++) {
            Texts.tell(x, "feed 1" + times("+1", 60));
            Due.is("a fault ahead of rule " + i, x.rule(), fault(125, 3));
            Texts.tell(x, "feed 1" + times("+1", 59));
            Due.is("rule " + i, x.rule(), i);
        }
    }

    private static void theFirstFault() {
        Due.under("FAULTS, the first along the text, 1 + 8 * its place and");
        kilnIs("kiln 2 1000;clay 31 0;set 9 9;fire 9;order 9 0 100;x", fault(5, 1));
        kilnIs("kiln 3 1000;clay 31 0;set 9 9;fire 9;order 9 0 100;x", fault(7, 1));
        kilnIs("kiln 3 999;clay 31 0;set 9 9;fire 9;order 9 0 100;x", fault(16, 1));
        kilnIs("kiln 3 999;clay 30 0;set 9 9;fire 9;order 9 0 100;x", fault(19, 1));
        kilnIs("kiln 3 999;clay 30 1;set 9 9;fire 9;order 9 0 100;x", fault(25, 1));
        kilnIs("kiln 3 999;clay 30 1;set 2 9;fire 9;order 9 0 100;x", fault(27, 1));
        kilnIs("kiln 3 999;clay 30 1;set 2 0;fire 9;order 9 0 100;x", fault(34, 1));
        kilnIs("kiln 3 999;clay 30 1;set 2 0;fire 2;order 9 0 100;x", fault(42, 1));
        kilnIs("kiln 3 999;clay 30 1;set 2 0;fire 2;order 0 0 100;x", fault(44, 1));
        kilnIs("kiln 3 999;clay 30 1;set 2 0;fire 2;order 0 1 100;x", fault(46, 1));
        kilnIs("kiln 3 999;clay 30 1;set 2 0;fire 2;order 0 1 99;x", fault(49, 0));
        ruleIs("feed 123456+x;y", fault(5, 1));
        ruleIs("feed 1+x+123456", fault(7, 0));
        ruleIs("feed 1 if " + times("[", 11) + "x", fault(20, 2));
        ruleIs("feed 1 if x" + times("[", 11), fault(10, 0));
        ruleIs("feed 1" + times("+1", 60) + "+123456", fault(125, 3));
        kilnIs("x", fault(0, 0));
        ruleIs("x", fault(0, 0));
    }

    private static void theLeastOfOnePlace() {
        Due.under("Of one place the least.");
        ruleIs("feed 1" + times("+1", 59) + "+x", fault(125, 0));
        ruleIs("feed 1" + times("+1", 59) + "+123456", fault(125, 1));
        ruleIs("feed 1" + times("+1", 59) + "+", fault(125, 0));
        ruleIs("feed 1" + times("+1", 57) + " if 1+1", fault(127, 0));
        ruleIs("feed 1" + times("+1", 58) + " if 1 1", fault(128, 0));
        ruleIs("feed 1" + times("+1", 59) + " if [", fault(129, 0));
        ruleIs("feed 1" + times(";feed 1", 11) + ";fed 1", fault(84, 0));
        ruleIs("feed 1" + times(";feed 1", 11) + ";", fault(84, 0));
        ruleIs("feed 1" + times(";feed 1", 11) + ";7", fault(84, 0));
        ruleIs("feed 1 if " + times("[", 10) + "1+[", fault(22, 0));
        ruleIs("feed 1 if " + times("[", 10) + "1=[", fault(22, 0));
        ruleIs("feed 1 if " + times("[", 10) + "1=not", fault(22, 0));
        ruleIs("feed 1 123456", fault(7, 0));
        ruleIs("feed 1 if 1 123456", fault(12, 0));
        ruleIs("feed 1 if 1=1 123456", fault(14, 0));
        kilnIs("kiln 3 0 999999", fault(9, 0));
        kilnIs("999999", fault(0, 0));
        kilnIs("kiln 3 0" + times(";clay 1 1", 3) + ";cla 1 1", fault(36, 0));
    }

    private static void theEnd() {
        Due.under("0 a byte or WORD that can't stand there, or the end (behind the last byte)");
        String[] kilns = {"", "kiln", "kiln 3", "kiln 3 0;", "kiln 3 0;clay", "kiln 3 0;clay 1", "kiln 3 0;clay 1 1;set",
            "kiln 3 0;clay 1 1;set 0", "kiln 3 0;clay 1 1;set 0 0;fire", "kiln 3 0;clay 1 1;order",
            "kiln 3 0;clay 1 1;order 0", "kiln 3 0;clay 1 1;order 0 1"};
        for (String text : kilns) {
            kilnIs(text, fault(text.length(), 0));
            kilnIs(text + "   ", fault(text.length() + 3, 0));
            String set = text.length() > 0 && !text.endsWith(";") ? text + " x" : text + "x";
            kilnIs(set, fault(set.length() - 1, 0));
        }
        String[] rules = {"", "feed", "feed 1+", "feed 1-", "feed 1*", "feed 1/", "feed 1%", "feed 1 if", "feed 1 if 1",
            "feed 1 if 1<", "feed 1 if 1<=", "feed 1 if not", "feed 1 if [", "feed 1 if [1=1", "feed 1 if 1=1 and",
            "feed 1 if 1=1 or", "feed 1;", "feed 1 if 1=1;"};
        for (String text : rules) {
            ruleIs(text, fault(text.length(), 0));
            ruleIs(text + " ", fault(text.length() + 1, 0));
            ruleIs(text + " ?", fault(text.length() + 1, 0));
        }
    }

    private static void bytesBesideThoseThatCanStand() {
        Due.under("0 a byte or WORD that can't stand there");
        for (int b = 0; b < 256; b++) {
            String sign = String.valueOf((char) b);
            boolean digit = b >= '0' && b <= '9';
            ruleIs("feed " + sign, digit ? 0 : b == ' ' ? fault(6, 0) : fault(5, 0));
            boolean joint = b == '+' || b == '-' || b == '*' || b == '/' || b == '%';
            boolean goesOn = digit || b == ' ';
            ruleIs("feed 1" + sign, goesOn ? 0 : joint || b == ';' ? fault(7, 0) : fault(6, 0));
            boolean compares = b == '<' || b == '=' || b == '>';
            int place = digit || joint ? 13 : b == ' ' ? 12 : 11;
            ruleIs("feed 1 if 1" + sign + "1", compares ? 0 : fault(place, 0));
            kilnIs("kiln 3 0" + sign, goesOn ? 0 : b == ';' ? fault(9, 0) : fault(8, 0));
        }
    }

    private static void signs() {
        Due.under("SUM SIGN SUM, SIGN one of < <= = >= >");
        for (int left = 4; left <= 6; left++) {
            holds(left + "<5", left < 5);
            holds(left + "<=5", left <= 5);
            holds(left + "=5", left == 5);
            holds(left + ">=5", left >= 5);
            holds(left + ">5", left > 5);
            holds("warm-36 < " + left, 4 < left);
            holds("0-5 < 0-" + left, -5 < -left);
        }
        ruleIs("feed 1 if 1=>1", fault(12, 0));
        ruleIs("feed 1 if 1<>1", fault(12, 0));
        ruleIs("feed 1 if 1<<1", fault(12, 0));
        ruleIs("feed 1 if 1<==1", fault(13, 0));
        ruleIs("feed 1 if 1!=1", fault(11, 0));
    }

    private static void joints() {
        Due.under("TEST: PART { or PART }. PART: FACT { and FACT }. FACT: not FACT | [ TEST ]");
        holds("1=2 and 1=2 or 1=1", true);
        holds("1=1 or 1=1 and 1=2", true);
        holds("1=1 or 1=2 and 1=2", true);
        holds("1=2 or 1=1 and 1=2", false);
        holds("1=2 or 1=1 and 1=1", true);
        holds("1=2 or 1=2 or 1=1", true);
        holds("1=1 or 1=2 or 1=2", true);
        holds("1=2 or 1=2 or 1=2", false);
        holds("1=1 and 1=1 and 1=2", false);
        holds("1=2 and 1=1 and 1=1", false);
        holds("1=1 and 1=1 and 1=1", true);
        holds("not 1=2 and 1=2", false);
        holds("not 1=1 or 1=1", true);
        holds("not not 1=1", true);
        holds("not not not 1=1", false);
        holds("not [1=1 and 1=2]", true);
        holds("not [1=1 or 1=2]", false);
        holds("[1=1 or 1=1] and 1=2", false);
        holds("[1=2 and 1=2] or 1=1", true);
        holds("1=2 and [1=2 or 1=1]", false);
        holds("[not 1=2] and not [1=2]", true);
        String[] so = {"1<2", "1<=2", "2=2", "2>=1", "2>1"};
        String[] notSo = {"2<1", "2<=1", "1=2", "1>=2", "1>2"};
        for (int i = 0; i < so.length; i++) {
            for (int j = 0; j < so.length; j++) {
                holds(so[i] + " and " + so[j], true);
                holds(so[i] + " and " + notSo[j], false);
                holds(notSo[i] + " or " + so[j], true);
                holds(notSo[i] + " or " + notSo[j], false);
                holds("not " + so[i] + " or " + notSo[j], false);
                holds("not " + notSo[i] + " and " + so[j], true);
            }
        }
        Due.under("SUM: TERM { (+ or -) TERM }. TERM: VALUE { (* or / or %) VALUE }");
        fedIs("feed 1+2*3", 7);
        fedIs("feed 2*3+1", 7);
        fedIs("feed 9-2*3", 3);
        fedIs("feed 9-5-2", 2);
        fedIs("feed 9-5+2", 6);
        fedIs("feed 24/4/3", 2);
        fedIs("feed 24/4*3-12", 6);
        fedIs("feed 17%10%4", 3);
        fedIs("feed 7*5%6+1", 6);
    }

    private static void firstClauseThatHolds() {
        Due.under("the SUM of the RULE IN FORCE's first CLAUSE without a TEST, or whose TEST holds (0 without), says, 0 at "
                + "least and 9 at most");
        fedIs("feed 3;feed 4", 3);
        fedIs("feed 3 if 1=2;feed 4;feed 5", 4);
        fedIs("feed 3 if 1=2;feed 4 if 1=1;feed 5", 4);
        fedIs("feed 3 if 1=1;feed 4 if 1=1;feed 5", 3);
        fedIs("feed 3 if 1=2;feed 4 if 1=2", 0);
        fedIs("feed 0", 0);
        fedIs("feed 0-1", 0);
        fedIs("feed 1-99999*99999*99999", 0);
        fedIs("feed 9", 9);
        fedIs("feed 10", 9);
        fedIs("feed 99999*99999*99999", 9);
        fedIs("feed 65536*32768", 9);
        fedIs("feed 65536*65536", 9);
        fedIs("feed 65536*65536*16384", 9);
    }

    private static void byZeroAndTowardsZero() {
        Due.under("/ is towards 0, % its rest, both 0 by 0");
        fedIs("feed 7/0+2", 2);
        fedIs("feed 7%0+2", 2);
        fedIs("feed 0/0+2", 2);
        fedIs("feed 7/burnt+2", 2);
        fedIs("feed 7%burnt+2", 2);
        fedIs("feed 7/0*5+2", 2);
        fedIs("feed 7/2", 3);
        fedIs("feed 7%2", 1);
        fedIs("feed 2/7+1", 1);
        fedIs("feed 2%7", 2);
        // a TERM is below 0 only when it has gone round: -2^63
        String least = "32768*32768*32768*32768*8";
        fedIs("feed 0-" + least + "/3*3", 9);
        fedIs("feed " + least + "/3*3", 0);
        fedIs("feed 5+" + least + "%3", 3);
        holds(least + "/99999*99999>" + least, true);
    }

    private static void goesRound() {
        Due.under("all goes round in 64 bits");
        String two60 = "32768*32768*32768*32768";
        fedIs("feed 3+" + two60 + "*16", 3);
        fedIs("feed 3+" + two60 + "*8", 0);
        fedIs("feed " + two60 + "*8-1", 9);
        fedIs("feed 0-" + two60 + "*8-1", 9);
        fedIs("feed " + two60 + "*8+" + two60 + "*8+4", 4);
        fedIs("feed 65536*65536/65536/8192", 8);
        holds(two60 + "*8<0", true);
        holds(two60 + "*7>0", true);
        holds("0-" + two60 + "*8=" + two60 + "*8", true);
    }

    private static void sixRules() {
        Due.under("The TAPE, which is empty then, is a RULE: its number; -2 - its FAULT; NONE, and nothing happens: there "
                + "are 6.");
        RingKiln x = Kilns.of(KILN);
        for (int i = 0; i < 6; i++) {
            Texts.tell(x, "feed " + (i + 1));
            Due.is("rule " + i, x.rule(), i);
            Due.is("the tape is empty", x.count(14), 0);
            Due.is("rules", x.count(3), i + 1);
            Due.is("none is in force", x.count(4), -1);
        }
        Texts.tell(x, "feed 9");
        Due.is("a seventh", x.rule(), -1);
        Due.is("the tape stays", x.count(14), 6);
        Due.is("six", x.count(3), 6);
        Texts.tell(x, "x");
        Due.is("a fault is not looked for", x.rule(), -1);
        for (int i = 0; i < 6; i++) {
            x.force(i);
            Due.is("fed by rule " + i, x.ahead(0, 1, 4), 20 - (i + 1));
        }
    }

    private static void ruleBehindAFault() {
        Due.under("-2 - its FAULT");
        RingKiln x = Kilns.of(KILN);
        Texts.tell(x, "feed 1");
        Due.is("rule 0", x.rule(), 0);
        Texts.tell(x, "feed 9;feed 9;feed");
        Due.is("a fault", x.rule(), fault(18, 0));
        Due.is("one rule", x.count(3), 1);
        Due.is("the tape is empty", x.count(14), 0);
        Due.is("rule 1 is not there", x.force(1), -2);
        Due.is("rule 0 is", x.force(0), -1);
        Due.is("and as it was", x.ahead(0, 1, 4), 19);
        Texts.tell(x, "feed 2 if 1=2;feed 3");
        Due.is("rule 1", x.rule(), 1);
        x.force(1);
        Due.is("nothing is left of the fault", x.ahead(0, 1, 4), 17);
    }

    private static void forced() {
        Due.under("A RULE is IN FORCE (NONE: none): which was; -2, and nothing happens, if there is none such.");
        RingKiln x = Kilns.of(KILN, "feed 1", "feed 2");
        int[] wrong = {2, -2, 6, Integer.MAX_VALUE, Integer.MIN_VALUE};
        for (int rule : wrong) {
            Due.is("force " + rule, x.force(rule), -2);
            Due.is("none is in force", x.count(4), -1);
        }
        Due.is("none was", x.force(1), -1);
        for (int rule : wrong) {
            Due.is("force " + rule, x.force(rule), -2);
            Due.is("1 is in force", x.count(4), 1);
        }
        Due.is("1 was", x.force(1), 1);
        Due.is("1 was again", x.force(0), 1);
        Due.is("0 was", x.force(-1), 0);
        Due.is("none was then", x.force(-1), -1);
        Due.is("no rules: none", new RingKiln().force(-1), -1);
        Due.is("no rules: 0", new RingKiln().force(0), -2);
    }
}
