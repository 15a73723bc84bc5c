/** The edges that the document names for what is asked of days to come, of ORDERS and of STORE: promises 17 to 32. */
public final class EdgesOfQuestions {
    private static final String RING = "kiln 3 999;clay 0 1;set 0 0;set 1 0;set 2 0;fire 0";
    /** Without COAL it is BURNT 5 9 12 14 16 17 18 19 20, WARM 33 27 22 18 15 12 10 8 6 5 4; OUT behind DAY 10. */
    private static final String COOLING = "kiln 3 0;clay 0 60;set 0 0;fire 0";

    private interface Question {
        int ask(RingKiln x);
    }

    public static void main(String[] args) {
        aheadUpTo100();
        aheadOfAnEmptyOne();
        aheadRefused();
        outThisDay();
        outOf200();
        comesOf200();
        comesToWhereItIs();
        ripeOf200();
        ripeAlready();
        spoiltOf200();
        coldOf200();
        coldBelow20();
        firstsRefused();
        goodsUpTo100();
        rowOfOneToFive();
        rowAsFarAsThereIsCoal();
        rowOfSeveral();
        rowsInTurn();
        rowOfNone();
        rowRefused();
        planUpTo40();
        planOfSeveral();
        planWarmAsItIs();
        planRefused();
        meetOfSeveral();
        meetRefused();
        lateBehindDue();
        restsUpTo20();
        restsOfClinker();
        restsOfNone();
        restsRefused();
        alikeOf60();
        alikeOnesInTurn();
        alikeInAll();
        alikeRefused();
        penceUpTo9999();
        penceLeft();
        penceRefused();
        Due.end();
    }

    private static void aheadUpTo100() {
        Due.under("AHEAD n DAYS (0 to 100): how WARM, WET, BURNT a CHAMBER is");
        String text = "kiln 3 150;clay 30 60;clay 9 9;set 0 0;set 1 1;fire 0";
        RingKiln x = Kilns.of(text);
        RingKiln gone = Kilns.of(text);
        int[] days = {0, 1, 2, 10, 50, 99, 100};
        for (int n : days) {
            Kilns.pass(gone, n - gone.count(5));
            for (int c = 0; c < 3; c++) {
                Due.is("warm " + c + " in " + n, x.ahead(c, n, 0), gone.chamber(c, 3));
                Due.is("wet " + c + " in " + n, x.ahead(c, n, 1), gone.chamber(c, 1));
                Due.is("burnt " + c + " in " + n, x.ahead(c, n, 2), gone.chamber(c, 2));
            }
            Due.is("fire in " + n, x.ahead(0, n, 3), gone.count(6));
            Due.is("coal in " + n, x.ahead(0, n, 4), gone.count(7));
        }
        Due.under("AHEAD what 0: WARM, 1: WET, 2: BURNT, 3: where the FIRE is (NONE: OUT), 4: COAL");
        RingKiln y = Kilns.under("feed 1", "kiln 9 999;clay 30 60;set 0 0;set 1 0;set 2 0;set 3 0;fire 0");
        Due.is("coal in 99", y.ahead(0, 99, 4), 900);
        Due.is("coal in 100", y.ahead(0, 100, 4), 899);
    }

    private static void aheadOfAnEmptyOne() {
        Due.under("(WET and BURNT 0, if it is EMPTY)");
        RingKiln x = Kilns.of("kiln 3 99;clay 9 60;set 0 0;set 1 0;fire 0");
        x.draw(1);
        for (int n = 0; n < 5; n++) {
            Due.is("wet in " + n, x.ahead(1, n, 1), 0);
            Due.is("burnt in " + n, x.ahead(1, n, 2), 0);
        }
        Due.is("warm", x.ahead(1, 1, 0), 6);
    }

    private static void aheadRefused() {
        Due.under("-2 without these, or a KILN.");
        RingKiln x = Kilns.of(RING);
        int[][] wrong = {{0, -1, 0}, {0, 101, 0}, {0, 101, 3}, {0, -1, 4}, {3, 0, 0}, {-1, 0, 1}, {3, 0, 2}, {0, 0, -1},
            {0, 0, 5}, {0, Integer.MAX_VALUE, 0}, {0, Integer.MIN_VALUE, 4}, {Integer.MIN_VALUE, 1, 0}, {0, 1, -2}};
        for (int[] w : wrong) {
            Due.is("ahead " + w[0] + ", " + w[1] + ", " + w[2], x.ahead(w[0], w[1], w[2]), -2);
        }
        for (int what = 0; what < 5; what++) {
            Due.is("no kiln, " + what, new RingKiln().ahead(0, 0, what), -2);
        }
        Due.under("(no CHAMBER is asked for these two)");
        int[] any = {-1, 3, 9, Integer.MAX_VALUE, Integer.MIN_VALUE};
        for (int c : any) {
            Due.is("fire, " + c, x.ahead(c, 1, 3), 1);
            Due.is("coal, " + c, x.ahead(c, 1, 4), 995);
        }
    }

    /**
     * A question whose answer lies more than 200 DAYS ahead at first: there is none up to the DAY from which on it is the
     * last of 200, and the same from there on.
     */
    private static void isFoundWithin200(String name, RingKiln x, Question question, int due) {
        Kilns.pass(x, due - 200 - x.count(5));
        Due.is(name + ": the 201st", question.ask(x), -2);
        x.day();
        Due.is(name + ": the 200th", question.ask(x), due);
        x.day();
        Due.is(name + ": the 199th", question.ask(x), due);
    }

    private static void outThisDay() {
        Due.under("OUT: the first DAY, this one the first, of 200, behind which the FIRE is OUT.");
        Due.is("no fire", Kilns.of("kiln 3 0").out(), 0);
        RingKiln x = Kilns.of(COOLING);
        Due.is("behind day 10", x.out(), 10);
        Kilns.pass(x, 10);
        Due.is("this day", x.out(), 10);
        x.day();
        Due.is("it is out", x.count(6), -1);
        Due.is("since", x.out(), 11);
    }

    private static void outOf200() {
        Due.under("OUT; -2: behind none of these");
        // 999 COAL last up to DAY 249
        isFoundWithin200("out", Kilns.of(RING), x -> x.out(), 259);
        Due.is("none of 200", Kilns.of(RING).out(), -2);
    }

    /** FED 1 a DAY the FIRE comes from CHAMBER 0 to CHAMBER 5 on DAY 219. */
    private static RingKiln slow(int needs) {
        StringBuilder text = new StringBuilder("kiln 6 999;clay 30 60;clay 30 ").append(needs);
        for (int c = 0; c < 5; c++) {
            text.append(";set ").append(c).append(" 0");
        }
        return Kilns.under("feed 1", text + ";set 5 1;fire 0");
    }

    private static void comesOf200() {
        Due.under("COMES to a CHAMBER: the first DAY, this one the first, of 200, in which the FIRE goes on to it.");
        isFoundWithin200("comes", slow(60), x -> x.comes(5), 219);
        RingKiln x = slow(60);
        Kilns.pass(x, 219);
        Due.is("this day", x.comes(5), 219);
        Due.is("it is ahead of it", x.count(6), 4);
        x.day();
        Due.is("it is there", x.count(6), 5);
        Due.is("it has come", x.comes(5), -2);
    }

    private static void comesToWhereItIs() {
        Due.under("COMES; -2: in none of these; NONE without that CHAMBER.");
        RingKiln ring = Kilns.of(RING);
        Due.is("where it is: once round", ring.comes(0), 2);
        Due.is("the next one", ring.comes(1), 0);
        RingKiln stays = Kilns.of(COOLING);
        Due.is("where it stays", stays.comes(0), -2);
        Due.is("an empty one", stays.comes(1), -2);
        Due.is("no fire", Kilns.of("kiln 3 0;clay 1 1;set 0 0").comes(0), -2);
        RingKiln out = Kilns.of("kiln 3 0;clay 0 5;set 0 0;set 2 0;fire 0");
        Due.is("behind an empty one", out.comes(2), -2);
    }

    private static void ripeOf200() {
        Due.under("RIPE of a CHAMBER that is SET: the first DAY, this one the first, of 200, behind which it is not RAW");
        isFoundWithin200("ripe", slow(30), x -> x.ripe(5), 252);
        isFoundWithin200("ripe", slow(60), x -> x.ripe(5), 267);
        Due.is("none of 200", Kilns.of(COOLING).ripe(0), -2);
        // BURNT 20 at last
        Due.is("needs 20", Kilns.of("kiln 3 0;clay 0 20;set 0 0;fire 0").ripe(0), 8);
        Due.is("needs 21", Kilns.of("kiln 3 0;clay 0 21;set 0 0;fire 0").ripe(0), -2);
        Due.is("needs 5", Kilns.of("kiln 3 0;clay 0 5;set 0 0;fire 0").ripe(0), 0);
        Due.is("needs 6", Kilns.of("kiln 3 0;clay 0 6;set 0 0;fire 0").ripe(0), 1);
    }

    private static void ripeAlready() {
        Due.under("RIPE; -2: behind none of these; NONE without that CHAMBER (SET).");
        RingKiln x = Kilns.of("kiln 3 0;clay 0 5;set 0 0;fire 0");
        Kilns.pass(x, 3);
        Due.is("ripe", x.ripe(0), 3);
        Due.is("spoilt", x.spoilt(0), 3);
        RingKiln clinker = Kilns.of("kiln 3 0;clay 0 2;set 0 0;fire 0");
        Kilns.pass(clinker, 2);
        Due.is("clinker is ripe", clinker.ripe(0), 2);
        Due.is("and spoilt", clinker.spoilt(0), 2);
    }

    private static void spoiltOf200() {
        Due.under("SPOILT; -2: behind none of these; NONE without that CHAMBER (SET).");
        RingKiln x = slow(3);
        int due = 0;
        while (x.chamber(5, 4) != 3 && due < 400) {
            due = x.count(5);
            x.day();
        }
        Due.holds("spoilt late", due > 200);
        isFoundWithin200("spoilt", slow(3), y -> y.spoilt(5), due);
        Due.under("SPOILT: likewise CLINKER.");
        // BURNT 5 9 12 .. 20: more than twice
        Due.is("needs 2", Kilns.of("kiln 3 0;clay 0 2;set 0 0;fire 0").spoilt(0), 0);
        Due.is("needs 3", Kilns.of("kiln 3 0;clay 0 3;set 0 0;fire 0").spoilt(0), 1);
        Due.is("needs 9", Kilns.of("kiln 3 0;clay 0 9;set 0 0;fire 0").spoilt(0), 7);
        Due.is("needs 10", Kilns.of("kiln 3 0;clay 0 10;set 0 0;fire 0").spoilt(0), -2);
    }

    private static void coldOf200() {
        Due.under("COLD; -2: behind none of these; NONE without that CHAMBER.");
        RingKiln x = Kilns.of(RING);
        Kilns.pass(x, 12);
        isFoundWithin200("cold", x, y -> y.cold(0), 255);
    }

    private static void coldBelow20() {
        Due.under("COLD of a CHAMBER: the first DAY, this one the first, of 200, behind which it is less WARM than 20 and "
                + "without the FIRE.");
        RingKiln with = Kilns.of(COOLING);
        Due.is("with the fire up to day 10", with.cold(0), 10);
        Due.is("an empty one", with.cold(1), 0);
        // OUT behind DAY 0: WARM 33 27 22 18
        Due.is("without it from 18 on", Kilns.of("kiln 3 0;clay 0 5;set 0 0;fire 0").cold(0), 3);
        // 46 51 42 35 29 24 20 16: at 20 it is not cold
        Due.is("not at 20", Kilns.of("kiln 3 20;clay 0 10;set 0 0;fire 0").cold(0), 7);
        // FED 9 9 in CHAMBER 2: it is WARM 82 68 56 46 38 31 25 20 16, CHAMBER 0 27 22 18, CHAMBER 1 13
        RingKiln each = Kilns.under("feed 9", "kiln 3 99;clay 0 21;set 2 0;fire 2");
        Kilns.pass(each, 2);
        Due.is("cold 2", each.cold(2), 9);
        Due.is("cold 0", each.cold(0), 3);
        Due.is("cold 1", each.cold(1), 2);
        RingKiln lit = Kilns.of("kiln 3 0;clay 0 3;set 0 0");
        Due.is("lit: 30", lit.light(0), 30);
        Due.is("25, then 20, then 16", lit.cold(0), 2);
        Kilns.pass(lit, 2);
        Due.is("warm 20", lit.chamber(0, 3), 20);
        Due.is("this day", lit.cold(0), 2);
    }

    private static void firstsRefused() {
        Due.under("NONE without that CHAMBER (SET).");
        RingKiln x = Kilns.of("kiln 4 0;clay 0 5;set 0 0;fire 0");
        int[] wrong = {-1, 4, 9, Integer.MAX_VALUE, Integer.MIN_VALUE};
        for (int c : wrong) {
            Due.is("comes to " + c, x.comes(c), -1);
            Due.is("ripe of " + c, x.ripe(c), -1);
            Due.is("spoilt of " + c, x.spoilt(c), -1);
            Due.is("cold of " + c, x.cold(c), -1);
        }
        Due.is("ripe of an empty one", x.ripe(3), -1);
        Due.is("spoilt of an empty one", x.spoilt(3), -1);
        Due.is("comes to an empty one", x.comes(3), -2);
        Due.is("cold of an empty one", x.cold(3), 0);
        RingKiln none = new RingKiln();
        Due.is("no kiln: out", none.out(), -1);
        Due.is("no kiln: comes", none.comes(0), -1);
        Due.is("no kiln: ripe", none.ripe(0), -1);
        Due.is("no kiln: spoilt", none.spoilt(0), -1);
        Due.is("no kiln: cold", none.cold(0), -1);
    }

    private static void goodsUpTo100() {
        Due.under("GOODS, as bits; NONE without these, or a KILN.");
        // FED 1 a DAY CHAMBER 5 is ripe behind DAY 252
        RingKiln x = slow(30);
        Kilns.pass(x, 153);
        int others = x.goods(99) & 31;
        Due.is("99 days", x.goods(99) & 32, 0);
        Due.is("100 days", x.goods(100), 32 | others);
        Due.is("101 days", x.goods(101), -1);
        Due.is("-1 days", x.goods(-1), -1);
        Due.is("most", x.goods(Integer.MAX_VALUE), -1);
        Due.is("least", x.goods(Integer.MIN_VALUE), -1);
        Due.is("no kiln", new RingKiln().goods(0), -1);
        Due.under("GOODS behind n DAYS (0 to 100): CHAMBERS that are GOOD, as bits.");
        RingKiln nine = Kilns.of("kiln 9 0;clay 0 5;set 8 0;fire 8");
        Due.is("now", nine.goods(0), 0);
        Due.is("the ninth", nine.goods(1), 256);
        nine.day();
        Due.is("now it is", nine.goods(0), 256);
        Due.is("clinker then", nine.goods(2), 0);
        Due.is("an empty one is not good", Kilns.of("kiln 3 0;clay 0 1").goods(5), 0);
    }

    private static void rowIs(RingKiln x, int... want) {
        int days = want.length - 1;
        for (int what = 0; what <= 5; what++) {
            Due.is("row of " + days + " days, " + what, x.row(0, days, what), what <= days ? want[what] : -1);
        }
    }

    private static RingKiln one(int coal, int needs) {
        return Kilns.of("kiln 3 " + coal + ";clay 0 " + needs + ";set 0 0;fire 0");
    }

    private static void rowOfOneToFive() {
        Due.under("ROW of a CHAMBER that is SET for n DAYS (1 to 5)");
        // one DAY: (40 + 4 * 0, 3, 6, 9) / 8 = 5 6 8 9
        rowIs(one(99, 5), 0, 0);
        rowIs(one(99, 6), 3, 3);
        rowIs(one(99, 7), 6, 6);
        rowIs(one(99, 8), 6, 6);
        rowIs(one(99, 9), 9, 9);
        Due.is("needs 10 in one day", one(99, 10).row(0, 1, 0), -2);
        // two DAYS, 9 and 9: 9 + 12
        rowIs(one(99, 21), 18, 9, 9);
        Due.is("needs 22 in two days", one(99, 22).row(0, 2, 0), -2);
        // 82 + 24 is 99 at most, too: three, four, five DAYS give 33 45 57
        rowIs(one(99, 33), 24, 9, 9, 6);
        Due.is("needs 34 in three days", one(99, 34).row(0, 3, 0), -2);
        rowIs(one(99, 45), 30, 9, 9, 6, 6);
        Due.is("needs 46 in four days", one(99, 46).row(0, 4, 0), -2);
        rowIs(one(99, 57), 36, 9, 9, 6, 6, 6);
        Due.is("needs 58 in five days", one(99, 58).row(0, 5, 0), -2);
        Due.under("ROW what 0: how much, 1 to 5: its number for the first to the fifth of these DAYS (NONE: there are not so "
                + "many)");
        // without COAL 5 9 12 14 16
        rowIs(one(99, 16), 0, 0, 0, 0, 0, 0);
        rowIs(one(99, 14), 0, 0, 0, 0, 0);
        rowIs(one(99, 12), 0, 0, 0, 0);
        rowIs(one(99, 9), 0, 0, 0);
    }

    private static void rowAsFarAsThereIsCoal() {
        Due.under("of all rows of 0, 3, 6 or 9 COAL to be FED in these, as far as there is COAL, in place of what the RULE "
                + "says");
        rowIs(one(2, 6), 2, 3);
        rowIs(one(3, 6), 3, 3);
        Due.is("1 is too little", one(1, 6).row(0, 1, 0), -2);
        // FED 3 4 5: 52 / 8 = 6, 56 / 8 = 60 / 8 = 7
        rowIs(one(5, 7), 5, 6);
        rowIs(one(4, 7), 4, 6);
        Due.is("3 is too little", one(3, 7).row(0, 1, 0), -2);
        rowIs(one(8, 9), 8, 9);
        rowIs(one(10, 9), 9, 9);
        Due.is("7 is too little", one(7, 9).row(0, 1, 0), -2);
        RingKiln ruled = Kilns.under("feed 9", "kiln 3 99;clay 0 9;set 0 0;fire 0");
        rowIs(ruled, 0, 0, 0);
        RingKiln starved = Kilns.under("feed 0", "kiln 3 99;clay 0 9;set 0 0;fire 0");
        rowIs(starved, 9, 9);
        // all of it in the first DAY: 56 / 8 + 46 / 8 = 12; in the second 5 + 49 / 8 = 11; 3 and 1: 6 + 47 / 8 = 11
        rowIs(one(4, 12), 4, 6, 0);
        Due.is("needs 13", one(4, 13).row(0, 2, 0), -2);
    }

    private static void rowOfSeveral() {
        Due.under("that by which least COAL goes; of several the first");
        // NEEDS 12: 0, 6 gives 5 + 57 / 8; 3, 3 gives 6 + 55 / 8, and comes later; so does 6, 0 with 8 + 53 / 8
        rowIs(one(99, 12), 6, 0, 6);
        // NEEDS 11: 0, 3 gives 5 + 45 / 8 = 10; 3, 0 gives 6 + 43 / 8 = 11
        rowIs(one(99, 11), 3, 3, 0);
        rowIs(one(99, 10), 3, 0, 3);
        // OUT: nothing can be FED, so the first of all rows
        RingKiln ripe = one(99, 5);
        ripe.day();
        Due.is("out", ripe.count(6), -1);
        rowIs(ripe, 0, 0);
        rowIs(ripe, 0, 0, 0, 0, 0, 0);
        // ripe behind DAY 0 in any case: no COAL at all
        rowIs(one(0, 5), 0, 0, 0, 0);
    }

    /** Nothing of one ROW is left for the next: each is as a new object has it. */
    private static void rowsInTurn() {
        Due.under("By what is asked nothing changes");
        RingKiln bought = one(0, 15);
        Due.is("no coal, two days", bought.row(0, 2, 0), -2);
        bought.buy(99);
        Due.is("coal, one day", bought.row(0, 1, 0), -2);
        Due.is("once more", bought.row(0, 1, 0), -2);
        // 3 and 6: 6 + 67 / 8 = 14; 6 and 3: 8 + 65 / 8 = 16
        rowIs(bought, 9, 6, 3);
        String[] texts = {"kiln 3 99;clay 0 33;clay 0 9;set 0 0;set 1 1;fire 0", "kiln 3 7;clay 4 12;clay 0 5;set 0 0;set 1 1;fire 1",
            "kiln 4 60;clay 2 3;clay 0 50;set 0 0;set 1 1;fire 0"};
        for (String text : texts) {
            RingKiln x = Kilns.of(text);
            int[] turns = {5, 1, 4, 2, 3, 5, 2, 1, 3, 4, 1};
            for (int turn = 0; turn < turns.length; turn++) {
                int n = turns[turn];
                int c = turn % 2;
                for (int what = 0; what <= 5; what++) {
                    RingKiln fresh = Kilns.of(text);
                    Kilns.pass(fresh, x.count(5));
                    Due.is("row " + c + ", " + n + ", " + what, x.row(c, n, what), fresh.row(c, n, what));
                }
                if (turn == 5) {
                    x.day();
                }
            }
        }
    }

    private static void rowOfNone() {
        Due.under("-2: there is no such row.");
        for (int what = 0; what <= 5; what++) {
            Due.is("raw for ever, " + what, one(0, 60).row(0, 5, what), -2);
            Due.is("no fire, " + what, Kilns.of("kiln 3 99;clay 0 1;set 0 0").row(0, 5, what), -2);
        }
        Due.under("behind which it is not RAW");
        // CLINKER is not RAW
        rowIs(one(99, 1), 0, 0);
        // CHAMBER 1, WET 0, is 2 times as much WARMER: 6 12 18 / 8 = 0 1 2
        RingKiln next = Kilns.of("kiln 3 99;clay 0 60;clay 0 2;set 0 0;set 1 1;fire 0");
        Due.is("the next one", next.row(1, 1, 0), 9);
        Due.is("9", next.row(1, 1, 1), 9);
    }

    private static void rowRefused() {
        Due.under("-3 without these.");
        RingKiln x = one(99, 9);
        int[][] wrong = {{0, 0, 0}, {0, 6, 0}, {0, -1, 0}, {0, 1, -1}, {0, 1, 6}, {1, 1, 0}, {3, 1, 0}, {-1, 1, 0},
            {0, Integer.MAX_VALUE, 0}, {0, Integer.MIN_VALUE, 0}, {Integer.MAX_VALUE, 1, 0}, {0, 1, Integer.MIN_VALUE}};
        for (int[] w : wrong) {
            Due.is("row " + w[0] + ", " + w[1] + ", " + w[2], x.row(w[0], w[1], w[2]), -3);
        }
        Due.is("no kiln", new RingKiln().row(0, 1, 0), -3);
    }

    /** The best CLAY by setting it and asking for GOODS; for a CHAMBER that is less WARM than 20. */
    private static void planIs(RingKiln x, int chamber, int days) {
        int best = -1;
        int most = Integer.bitCount(x.goods(days));
        for (int clay = 0; clay < x.count(1); clay++) {
            x.set(chamber, clay);
            int good = Integer.bitCount(x.goods(days));
            x.undo();
            if (good > most) {
                best = clay;
                most = good;
            }
        }
        Due.is("plan for " + days, x.plan(chamber, days, 0), best);
        Due.is("good ones in " + days, x.plan(chamber, days, 1), most);
    }

    private static void planUpTo40() {
        Due.under("PLAN of a CHAMBER that is EMPTY for n DAYS (1 to 40): the CLAY with which it had best be SET now");
        int[] days = {1, 2, 3, 5, 10, 20, 39, 40};
        for (int n : days) {
            planIs(Kilns.of("kiln 4 99;clay 9 60;clay 0 5;clay 4 20;set 0 1;set 2 2;set 3 0;fire 0"), 1, n);
            planIs(Kilns.of("kiln 3 99;clay 9 60;clay 0 5;set 0 1;fire 0"), 2, n);
        }
        // FED 1 a DAY, CHAMBER 1, NEEDS 30, is ripe behind DAY 39 or 40
        for (int wet = 0; wet <= 30; wet++) {
            RingKiln x = Kilns.under("feed 1", "kiln 3 999;clay 30 20;clay " + wet + " 30;set 0 0;fire 0");
            planIs(x, 1, 39);
            planIs(x, 1, 40);
        }
    }

    private static void planOfSeveral() {
        Due.under("of several none, then the least");
        RingKiln same = Kilns.of("kiln 3 99;clay 30 60;clay 0 5;clay 0 5;set 0 1;fire 0");
        // CHAMBER 1 is BURNT 1 3 7 by CLAY 1 or 2
        Due.is("none is as good", same.plan(1, 1, 0), -1);
        Due.is("one good", same.plan(1, 1, 1), 1);
        Due.is("1 is as good as 2", same.plan(1, 3, 0), 1);
        Due.is("one good then", same.plan(1, 3, 1), 1);
        Due.is("no clay", Kilns.of("kiln 3 0").plan(0, 40, 0), -1);
        Due.is("none good", Kilns.of("kiln 3 0").plan(0, 40, 1), 0);
        // CHAMBER 0 is CLINKER behind DAY 0, CHAMBER 1 would be BURNT 1
        RingKiln better = Kilns.of("kiln 3 99;clay 0 1;set 0 0;fire 0");
        Due.is("better than none", better.plan(1, 1, 0), 0);
        Due.is("by one", better.plan(1, 1, 1), 1);
    }

    private static void planWarmAsItIs() {
        Due.under("with which it had best be SET now (WARM as it is)");
        RingKiln x = Kilns.under("feed 9", "kiln 4 99;clay 30 60;clay 0 3;set 0 0;fire 0");
        Kilns.pass(x, 2);
        Due.is("warm", x.chamber(1, 3), 27);
        Due.is("it can't be set", x.set(1, 1), -1);
        // 27 + 18 = 45: 45 / 8 = 5, GOOD
        Due.is("it would be good", x.plan(1, 1, 1), 1);
        Due.is("by clay 1", x.plan(1, 1, 0), 1);
        Due.is("it is empty still", x.chamber(1, 4), 0);
    }

    private static void planRefused() {
        Due.under("PLAN what 0: which (NONE: none), 1: how many. -2 without these.");
        RingKiln x = Kilns.of("kiln 3 99;clay 9 60;set 0 0;fire 0");
        int[][] wrong = {{1, 0, 0}, {1, 41, 0}, {1, -1, 1}, {1, 1, 2}, {1, 1, -1}, {0, 1, 0}, {3, 1, 0}, {-1, 1, 0},
            {1, Integer.MAX_VALUE, 0}, {1, Integer.MIN_VALUE, 0}, {Integer.MAX_VALUE, 1, 0}};
        for (int[] w : wrong) {
            Due.is("plan " + w[0] + ", " + w[1] + ", " + w[2], x.plan(w[0], w[1], w[2]), -2);
        }
        Due.is("no kiln", new RingKiln().plan(0, 1, 0), -2);
    }

    /** STORE as many GOOD ones of each CLAY as told; each NEEDS 9. */
    private static RingKiln stored(String orders, int... many) {
        RingKiln x = Kilns.of("kiln 9 0;clay 0 9;clay 0 9;clay 0 9" + orders);
        int chamber = 0;
        for (int clay = 0; clay < many.length; clay++) {
            for (int i = 0; i < many[clay]; i++) {
                Kilns.bake(x, chamber, clay);
                chamber = (chamber + 4) % 9;
            }
            Due.is("store", x.clay(clay, 2), many[clay]);
        }
        return x;
    }

    private static void meetIs(RingKiln x, int many, int set) {
        Due.is("meet", x.meet(0), many);
        Due.is("set", x.meet(1), set);
    }

    private static void meetOfSeveral() {
        Due.under("MEET: of all sets of ORDERS that are not SENT, for which, together, there is STORE, that by which MANY, "
                + "together, is most; of several the least as bits");
        meetIs(Kilns.of("kiln 3 0"), 0, 0);
        meetIs(stored(";order 0 1 9", 0), 0, 0);
        meetIs(stored(";order 0 1 9", 1), 1, 1);
        meetIs(stored(";order 0 2 9", 1), 0, 0);
        meetIs(stored(";order 0 2 9;order 1 2 9", 1, 2), 2, 2);
        // one CLAY, together: 2 of 3; 1 and 2, or 3 alone
        meetIs(stored(";order 0 2 9;order 0 2 9", 3), 2, 1);
        meetIs(stored(";order 0 3 9;order 0 1 9;order 0 2 9", 3), 3, 1);
        meetIs(stored(";order 0 1 9;order 0 2 9;order 0 3 9", 3), 3, 3);
        // all four; the last alone; each CLAY of its own
        meetIs(stored(";order 0 1 9;order 1 1 9;order 2 1 9;order 0 1 9", 2, 1, 1), 4, 15);
        meetIs(stored(";order 0 9 9;order 1 9 9;order 2 9 9;order 0 1 9", 2, 1, 1), 1, 8);
        meetIs(stored(";order 0 2 9;order 1 1 9;order 2 1 9;order 0 1 9", 2, 1, 1), 4, 7);
        RingKiln x = stored(";order 0 2 9;order 0 1 9;order 0 1 9", 2);
        meetIs(x, 2, 1);
        Due.is("sent", x.send(2), 1);
        meetIs(x, 1, 2);
        Due.is("sent", x.send(1), 0);
        meetIs(x, 0, 0);
    }

    private static void meetRefused() {
        Due.under("MEET what 0: MANY, together, 1: the set. NONE for others, or without a KILN.");
        int[] wrong = {-1, 2, Integer.MAX_VALUE, Integer.MIN_VALUE};
        for (int what : wrong) {
            Due.is("meet " + what, stored(";order 0 1 9", 1).meet(what), -1);
        }
        Due.is("no kiln, 0", new RingKiln().meet(0), -1);
        Due.is("no kiln, 1", new RingKiln().meet(1), -1);
    }

    private static void lateBehindDue() {
        Due.under("LATE: ORDERS that were SENT on a DAY behind DUE, or are not SENT, if this DAY is behind it, as bits.");
        RingKiln x = Kilns.of("kiln 3 0;clay 0 9;order 0 1 0;order 0 1 4;order 0 1 3;order 0 1 99");
        int[] want = {0, 1, 1, 1, 5, 7};
        for (int day = 0; day < want.length; day++) {
            Due.is("late on day " + day, x.late(), want[day]);
            x.day();
        }
        Due.is("not sent on day 6", x.late(), 7);
        RingKiln y = Kilns.of("kiln 3 0;clay 0 9;order 0 1 4;order 0 1 3;order 0 1 99;order 0 1 99");
        Kilns.bake(y, 0, 0);
        Due.is("day", y.count(5), 4);
        Due.is("sent on its day", y.send(0), 0);
        Due.is("1 is late", y.late(), 2);
        Kilns.pass(y, 3);
        Due.is("0 never is late", y.late(), 2);
        RingKiln z = Kilns.of("kiln 3 0;clay 0 9;order 0 1 4;order 0 1 3;order 0 1 99;order 0 1 99");
        Kilns.bake(z, 0, 0);
        Due.is("sent behind its day", z.send(1), 0);
        Due.is("late for ever", z.late(), 2);
        Kilns.pass(z, 95);
        Due.is("on day 99", z.count(5), 99);
        Due.is("99 is not late on its day", z.late(), 3);
        z.day();
        Due.is("all four", z.late(), 15);
        Due.is("no orders", Kilns.of("kiln 3 0").late(), 0);
        Due.under("LATE, as bits; NONE without a KILN.");
        Due.is("no kiln", new RingKiln().late(), -1);
    }

    private static void restsAre(RingKiln x, int one, int other, int days, int... want) {
        for (int what = 0; what < 3; what++) {
            Due.is("rests of " + days + " days, " + what, x.rests(one, other, days, what), want[what]);
        }
    }

    /** RESTS by setting both and looking ahead; for CHAMBERS that are less WARM than 20. */
    private static void restsAreAsSet(RingKiln x, int one, int other, int days) {
        int ways = x.count(1) + 1;
        int[][] oneHas = new int[ways][ways];
        int[][] otherHas = new int[ways][ways];
        for (int a = 0; a < ways; a++) {
            for (int b = 0; b < ways; b++) {
                x.image(0);
                x.set(one, a - 1);
                x.set(other, b - 1);
                Kilns.pass(x, days);
                oneHas[a][b] = x.chamber(one, 2) - (x.chamber(one, 4) == 3 ? 30 : 0);
                otherHas[a][b] = x.chamber(other, 2) - (x.chamber(other, 4) == 3 ? 30 : 0);
                x.back(0);
            }
        }
        int[] want = {0, -2, -2};
        for (int a = ways - 1; a >= 0; a--) {
            for (int b = ways - 1; b >= 0; b--) {
                boolean rest = true;
                for (int way = 0; way < ways; way++) {
                    rest &= oneHas[way][b] <= oneHas[a][b] && otherHas[a][way] <= otherHas[a][b];
                }
                if (rest) {
                    want[0]++;
                    want[1] = a - 1;
                    want[2] = b - 1;
                }
            }
        }
        restsAre(x, one, other, days, want);
    }

    private static void restsUpTo20() {
        Due.under("RESTS of two CHAMBERS that are EMPTY for n DAYS (1 to 20)");
        int[] days = {1, 2, 7, 19, 20};
        for (int n : days) {
            restsAreAsSet(Kilns.of("kiln 4 99;clay 0 5;clay 0 2;clay 3 30;set 0 0;fire 0"), 1, 2, n);
            restsAreAsSet(Kilns.of("kiln 4 99;clay 0 5;clay 0 2;clay 3 30;set 0 0;fire 0"), 2, 1, n);
            restsAreAsSet(Kilns.of("kiln 5 99;clay 2 20;set 0 0;set 2 0;fire 0"), 4, 1, n);
        }
        Due.under("twos by which neither would have more by another way: how many; the first (EMPTY ahead of CLAY 0; by the "
                + "first one, then the second one).");
        restsAre(Kilns.of("kiln 3 0"), 0, 2, 20, 1, -1, -1);
        restsAre(Kilns.of("kiln 3 0;clay 0 1"), 2, 0, 1, 4, -1, -1);
        // CHAMBER 1 has 1 by either CLAY, CHAMBER 2 has nothing by any
        RingKiln two = Kilns.of("kiln 4 99;clay 0 5;clay 0 2;set 0 0;fire 0");
        restsAre(two, 1, 2, 1, 6, 0, -1);
        restsAre(two, 2, 1, 1, 6, -1, 0);
    }

    private static void restsOfClinker() {
        Due.under("each has how BURNT it is then, less 30, if it is CLINKER (0, if it is EMPTY)");
        RingKiln hot = Kilns.under("feed 9", "kiln 4 99;clay 0 1;set 0 0;fire 0");
        // CHAMBER 1, if SET, takes the FIRE and is CLINKER, BURNT 8, has -22; if not, CHAMBER 2 has 1
        restsAre(hot, 1, 2, 2, 1, -1, 0);
        // CHAMBER 1 has 18 / 8 = 2, which is GOOD by NEEDS 1, CHAMBER 2 has 9 / 8 = 1
        restsAre(hot, 1, 2, 1, 1, 0, 0);
        // CLINKER that is BURNT 30 has as much as an EMPTY one: found with PlainKiln
        RingKiln thirty = Kilns.under("feed 9", "kiln 6 279;clay 29 6;set 0 0;set 1 0;fire 0");
        restsAre(thirty, 2, 4, 11, 4, -1, -1);
        restsAreAsSet(thirty, 2, 4, 11);
        Due.under("each is SET with a CLAY now (WARM as it is)");
        RingKiln x = Kilns.under("feed 9", "kiln 4 99;clay 30 60;clay 0 3;set 0 0;fire 0");
        Kilns.pass(x, 2);
        Due.is("it can't be set", x.set(1, 1), -1);
        // CHAMBER 1: 45 / 8 = 5; CHAMBER 2: 13 + 9 = 22 / 8 = 2; both by CLAY 1 alone
        restsAre(x, 1, 2, 1, 1, 1, 1);
    }

    private static void restsOfNone() {
        Due.under("1, 2: CLAYS of the first (NONE: EMPTY; -2: there is none)");
        RingKiln none = Kilns.under("feed 5", "kiln 3 999;clay 4 10;clay 0 8;set 0 1;fire 0");
        restsAre(none, 1, 2, 8, 0, -2, -2);
        restsAreAsSet(none, 1, 2, 8);
    }

    private static void restsRefused() {
        Due.under("RESTS what 0: how many, 1, 2: CLAYS of the first (NONE: EMPTY; -2: there is none). -3 without these "
                + "(unlike).");
        RingKiln x = Kilns.of("kiln 4 99;clay 0 5;set 0 0;fire 0");
        int[][] wrong = {{1, 1, 1, 0}, {0, 1, 1, 0}, {1, 0, 1, 0}, {4, 1, 1, 0}, {1, 4, 1, 0}, {-1, 1, 1, 0}, {1, -1, 1, 0},
            {1, 2, 0, 0}, {1, 2, 21, 0}, {1, 2, -1, 0}, {1, 2, 1, 3}, {1, 2, 1, -1}, {0, 0, 1, 0},
            {1, 2, Integer.MAX_VALUE, 0}, {Integer.MIN_VALUE, 2, 1, 0}, {1, Integer.MAX_VALUE, 1, 0}};
        for (int[] w : wrong) {
            Due.is("rests " + w[0] + ", " + w[1] + ", " + w[2] + ", " + w[3], x.rests(w[0], w[1], w[2], w[3]), -3);
        }
        Due.is("no kiln", new RingKiln().rests(0, 1, 1, 0), -3);
    }

    private static void alikeIs(RingKiln x, int day, int later) {
        Due.is("alike on day " + x.count(5), x.alike(0), day);
        Due.is("later on day " + x.count(5), x.alike(1), later);
    }

    private static void alikeOf60() {
        Due.under("ALIKE: the first DAY, this one the first, of 60, at whose begin all CHAMBERS and the FIRE are as at the "
                + "begin of a later one, 60 DAYS from now at most");
        // BURNT one more in two DAYS, up to 60; OUT behind DAY 148, all cold at DAY 155
        RingKiln x = Kilns.under("feed 1 if warm<6;feed 0", "kiln 3 999;clay 30 60;set 0 0;fire 0");
        Kilns.pass(x, 94);
        alikeIs(x, -2, -2);
        x.day();
        alikeIs(x, -2, -2);
        x.day();
        alikeIs(x, 155, 1);
        Kilns.pass(x, 58);
        alikeIs(x, 155, 1);
        x.day();
        Due.is("day 155", x.count(5), 155);
        alikeIs(x, 155, 1);
        x.day();
        alikeIs(x, 156, 1);
        alikeIs(Kilns.of("kiln 3 0"), 0, 1);
    }

    private static void alikeOnesInTurn() {
        Due.under("how much later the first such is");
        // round the ring, all of them BURNT 200 from DAY 74 on: alike three DAYS later, which must be within 60
        RingKiln x = Kilns.under("feed 2", RING);
        Kilns.pass(x, 16);
        alikeIs(x, -2, -2);
        x.day();
        alikeIs(x, 74, 3);
        x.day();
        alikeIs(x, 74, 3);
        Kilns.pass(x, 56);
        Due.is("day 74", x.count(5), 74);
        alikeIs(x, 74, 3);
        x.day();
        alikeIs(x, 75, 3);
        RingKiln four = Kilns.under("feed 3", "kiln 4 999;clay 0 1;set 0 0;set 1 0;set 2 0;set 3 0;fire 0");
        Kilns.pass(four, 11);
        alikeIs(four, -2, -2);
        four.day();
        alikeIs(four, 68, 4);
    }

    private static void alikeInAll() {
        Due.under("(CLAY, how WET, BURNT, WARM)");
        // WARM alone: 1 in CHAMBER 0 at DAY 17, then 0
        RingKiln warm = Kilns.of("kiln 3 20;clay 0 10;set 0 0;fire 0");
        alikeIs(warm, 18, 1);
        Kilns.pass(warm, 17);
        Due.is("warm 1", warm.chamber(0, 3), 1);
        alikeIs(warm, 18, 1);
        // COAL goes on, and is not asked for: the FIRE in what is BURNT 200
        RingKiln ring = Kilns.of(RING);
        Kilns.pass(ring, 38);
        alikeIs(ring, 38, 3);
        alikeButForTheFire();
    }

    /** CHAMBER 0, BURNT 200, is lit, and is OUT behind this DAY, WARM as before, as are the EMPTY ones. */
    private static void alikeButForTheFire() {
        Due.under("at whose begin all CHAMBERS and the FIRE are as at the begin of a later one");
        RingKiln x = Kilns.of("kiln 3 999;clay 0 1;set 0 0;fire 0", "feed 9", "feed 7", "feed 2");
        x.force(0);
        for (int i = 0; i < 25 && x.chamber(0, 2) < 200; i++) {
            x.day();
            x.light(0);
        }
        Kilns.pass(x, 9);
        Due.is("set", x.set(1, 0), 0);
        x.force(1);
        x.light(1);
        Kilns.pass(x, 7);
        Due.is("drawn", x.draw(1), 3);
        x.force(2);
        Due.is("lit", x.light(0), 35);
        Due.is("day 33", x.count(5), 33);
        for (int c = 0; c < 3; c++) {
            for (int what = 0; what < 3; what++) {
                Due.is("alike " + c + ", " + what, x.ahead(c, 1, what), x.ahead(c, 0, what));
            }
        }
        Due.is("but for the fire", x.ahead(0, 1, 3), -1);
        // 35 29 24 20 16 13 10 8 6 5 4 3 2 1 0 at the begins of DAYS 34 to 48
        alikeIs(x, 48, 1);
    }

    private static void alikeRefused() {
        Due.under("ALIKE what 0: the DAY, 1: how much later; -2: there is none. NONE for others, or without a KILN.");
        int[] wrong = {-1, 2, Integer.MAX_VALUE, Integer.MIN_VALUE};
        for (int what : wrong) {
            Due.is("alike " + what, Kilns.of(RING).alike(what), -1);
        }
        Due.is("no kiln, 0", new RingKiln().alike(0), -1);
        Due.is("no kiln, 1", new RingKiln().alike(1), -1);
    }

    private static void penceAre(RingKiln x, int much, int... want) {
        for (int clay = 0; clay < want.length; clay++) {
            Due.is("pence of " + much + " for " + clay, x.pence(much, clay), want[clay]);
        }
    }

    private static void penceUpTo9999() {
        Due.under("PENCE (0 to 9999) among CLAYS by STORE: each the part downwards");
        RingKiln x = stored("", 1, 2, 1);
        penceAre(x, 0, 0, 0, 0);
        penceAre(x, 4, 1, 2, 1);
        penceAre(x, 9996, 2499, 4998, 2499);
        penceAre(x, 9999, 2500, 4999, 2500);
        Due.is("10000", x.pence(10000, 0), -1);
        Due.is("-1", x.pence(-1, 0), -1);
        penceAre(stored("", 0, 1, 0), 9999, 0, 9999, 0);
    }

    private static void penceLeft() {
        Due.under("what is left, one each, to those whose part lost most by that, of several the least first");
        // STORE 1 1 1: thirds
        RingKiln thirds = stored("", 1, 1, 1);
        penceAre(thirds, 1, 1, 0, 0);
        penceAre(thirds, 2, 1, 1, 0);
        penceAre(thirds, 3, 1, 1, 1);
        penceAre(thirds, 5, 2, 2, 1);
        // STORE 1 1 2: 5 is 1.25 1.25 2.5; 6 is 1.5 1.5 3; 7 is 1.75 1.75 3.5
        RingKiln quarters = stored("", 1, 1, 2);
        penceAre(quarters, 5, 1, 1, 3);
        penceAre(quarters, 6, 2, 1, 3);
        penceAre(quarters, 7, 2, 2, 3);
        // 1 is 0.25 0.25 0.5; 3 is 0.75 0.75 1.5
        penceAre(quarters, 1, 0, 0, 1);
        penceAre(quarters, 3, 1, 1, 1);
        // STORE 0 2 3: CLAY 0 has no part; 4 is 1.6 2.4
        RingKiln none = stored("", 0, 2, 3);
        penceAre(none, 4, 0, 2, 2);
        penceAre(none, 1, 0, 0, 1);
        Due.under("(nothing, if there is none)");
        penceAre(Kilns.of("kiln 3 0;clay 0 9;clay 0 9"), 9999, 0, 0);
    }

    private static void penceRefused() {
        Due.under("PENCE of a CLAY; NONE without these.");
        RingKiln x = stored("", 1);
        int[][] wrong = {{-1, 0}, {10000, 0}, {1, -1}, {1, 3}, {Integer.MAX_VALUE, 0}, {Integer.MIN_VALUE, 0},
            {1, Integer.MAX_VALUE}, {1, Integer.MIN_VALUE}};
        for (int[] w : wrong) {
            Due.is("pence " + w[0] + ", " + w[1], x.pence(w[0], w[1]), -1);
        }
        Due.is("a clay that was not told", Kilns.of("kiln 3 0;clay 1 1").pence(1, 1), -1);
        Due.is("without store, too", Kilns.of("kiln 3 0;clay 1 1").pence(10000, 0), -1);
        Due.is("no kiln", new RingKiln().pence(1, 0), -1);
    }
}
