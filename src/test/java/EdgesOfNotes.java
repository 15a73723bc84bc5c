/** The edges that the document names for NOTES, DRAWS, IMAGES and what is counted: promises 28, 29 and 33 to 40. */
public final class EdgesOfNotes {
    private static final String RING = "kiln 3 999;clay 0 1;set 0 0;set 1 0;set 2 0;fire 0";
    /** Without COAL it is BURNT 5 9 12 14 behind DAYS 0 1 2 3; the FIRE is OUT when it is ripe. */
    private static final String COOLING = "kiln 3 0;clay 0 5;set 0 0;fire 0";

    public static void main(String[] args) {
        needFrom1To60();
        needOfEach();
        needRefused();
        dampFrom0To30();
        dampRefused();
        notesUpToTen();
        notesOfDays0To60();
        notesOut();
        noNotesThen();
        noteRefused();
        ruledOfAll();
        ruledFromTheBeginOn();
        ruledRefused();
        lookPartsBest();
        lookOfSeveral();
        lookUpTo60();
        lookRefused();
        seeds();
        draws();
        rainsBelowP();
        rainsTimes();
        rainsUpTo60Days();
        rainsOnWhat();
        rainsAtMost60();
        rainsRefused();
        counted();
        countedSets();
        countRefused();
        fourImages();
        imageMadeAgain();
        imageOfAll();
        imageOfWhatCanBeUndone();
        imageOfNoKiln();
        imageRefused();
        backRefused();
        Due.end();
    }

    private static void needIs(RingKiln x, int clay, int many, int least) {
        Due.is("need of " + clay + ": how many", x.need(clay, 0), many);
        Due.is("need of " + clay + ": the least", x.need(clay, 1), least);
    }

    private static void dampIs(RingKiln x, int clay, int many, int least) {
        Due.is("damp of " + clay + ": how many", x.damp(clay, 0), many);
        Due.is("damp of " + clay + ": the least", x.damp(clay, 1), least);
    }

    private static void needFrom1To60() {
        Due.under("NEED of a CLAY: numbers 1 to 60 as NEEDS, in place of what the text told");
        RingKiln all = Kilns.of(COOLING);
        needIs(all, 0, 60, 1);
        // 56 WARM in DAY 0, then 1 COAL a DAY: BURNT 59 behind DAY 10
        RingKiln last = Kilns.under("feed 8 if day=0;feed 1", "kiln 3 99;clay 0 60;set 0 0;fire 0");
        Due.is("burnt", last.ahead(0, 11, 2), 59);
        last.note(10, 0);
        needIs(last, 0, 1, 60);
        last.note(-1, 0);
        last.note(10, -1);
        needIs(last, 0, 59, 1);
        // WET 18 is dry behind DAY 6, BURNT 1 2 behind DAYS 7 and 8
        RingKiln first = Kilns.of("kiln 3 0;clay 18 30;set 0 0;fire 0");
        first.note(7, -1);
        needIs(first, 0, 1, 1);
        first.note(8, -1);
        needIs(first, 0, 1, 1);
        first.note(-1, 0);
        first.note(7, 0);
        needIs(first, 0, 59, 2);
        first.note(6, -1);
        needIs(first, 0, 0, -2);
    }

    private static void needOfEach() {
        Due.under("so that from the begin on, by the RULE IN FORCE, all else as the text told it, all NOTES are so: how many; "
                + "the least.");
        RingKiln x = Kilns.of("kiln 3 0;clay 0 5;clay 0 3;set 0 0;set 1 1;fire 0", "feed 9");
        x.note(0, 1);
        // CLAY 0 is BURNT 5: the FIRE goes on to 1; CLAY 1 has nothing to do with it
        needIs(x, 0, 5, 1);
        needIs(x, 1, 60, 1);
        x.buy(50);
        x.force(0);
        needIs(x, 0, 5, 1);
        Kilns.pass(x, 3);
        needIs(x, 0, 5, 1);
        Due.is("needs stay", x.clay(0, 1), 5);
        // a CLAY that is nowhere
        RingKiln nowhere = Kilns.of("kiln 3 0;clay 0 5;clay 0 3;set 0 0;fire 0");
        nowhere.note(0, -1);
        needIs(nowhere, 1, 60, 1);
        dampIs(nowhere, 1, 31, 0);
        nowhere.note(0, 0);
        needIs(nowhere, 1, 0, -2);
        dampIs(nowhere, 1, 0, -2);
    }

    private static final int[][] NO_CLAY = {{-1, 0}, {1, 0}, {3, 0}, {0, -1}, {0, 2}, {Integer.MAX_VALUE, 0},
        {Integer.MIN_VALUE, 1}, {0, Integer.MAX_VALUE}, {0, Integer.MIN_VALUE}};

    private static void needRefused() {
        Due.under("NEED what 0: how many, 1: the least (-2: there is none). NONE without these.");
        RingKiln x = Kilns.of(COOLING);
        for (int[] w : NO_CLAY) {
            Due.is("need " + w[0] + ", " + w[1], x.need(w[0], w[1]), -1);
        }
        Due.is("no kiln", new RingKiln().need(0, 0), -1);
    }

    private static void dampFrom0To30() {
        Due.under("DAMP of a CLAY: numbers 0 to 30 likewise as WET.");
        RingKiln none = Kilns.of(COOLING);
        dampIs(none, 0, 31, 0);
        none.note(0, -1);
        dampIs(none, 0, 1, 0);
        none.note(-1, 0);
        none.note(0, 0);
        dampIs(none, 0, 30, 1);
        none.note(0, -1);
        dampIs(none, 0, 0, -2);
        // 29 dry away up to DAY 2: WET 29 is BURNT behind DAY 3, WET 30 behind DAY 4
        RingKiln most = Kilns.under("feed 8 if day=0;feed 5", "kiln 3 99;clay 30 1;set 0 0;fire 0");
        Due.is("wet", most.ahead(0, 3, 1), 1);
        most.note(3, 0);
        dampIs(most, 0, 1, 30);
        most.note(4, -1);
        dampIs(most, 0, 1, 30);
        most.note(-1, 0);
        most.note(3, -1);
        dampIs(most, 0, 30, 0);
        Due.is("wet stays", most.clay(0, 0), 30);
        Due.is("in the chamber, too", most.chamber(0, 1), 30);
    }

    private static void dampRefused() {
        Due.under("DAMP what 0: how many, 1: the least (-2: there is none). NONE without these.");
        RingKiln x = Kilns.of(COOLING);
        for (int[] w : NO_CLAY) {
            Due.is("damp " + w[0] + ", " + w[1], x.damp(w[0], w[1]), -1);
        }
        Due.is("no kiln", new RingKiln().damp(0, 0), -1);
    }

    private static void notesUpToTen() {
        Due.under("NOTES 0 to 9, told");
        RingKiln x = Kilns.of(COOLING);
        for (int i = 0; i < 10; i++) {
            Due.is("note " + i, x.note(0, -1), i + 1);
            Due.is("notes", x.count(11), i + 1);
        }
        for (int i = 0; i < 3; i++) {
            Due.is("an eleventh", x.note(0, 0), -2);
            Due.is("ten", x.count(11), 10);
        }
        Due.is("it is not among them", x.ruled(0), 1);
        // the tenth counts as the first does
        RingKiln y = Kilns.of(COOLING);
        for (int i = 0; i < 9; i++) {
            y.note(0, -1);
        }
        Due.is("nine", y.ruled(0), 1);
        Due.is("the tenth", y.note(0, 0), 10);
        Due.is("ten", y.ruled(0), 0);
        RingKiln z = Kilns.of(COOLING);
        z.note(0, 0);
        for (int i = 0; i < 9; i++) {
            z.note(0, -1);
        }
        Due.is("the first", z.ruled(0), 0);
    }

    private static void notesOfDays0To60() {
        Due.under("behind the n-th DAY of all (0 to 60) the FIRE was in a CHAMBER");
        RingKiln x = Kilns.of(RING, "feed 4 if day<50", "feed 4 if day<51");
        // round the ring, in CHAMBER 1 behind DAY 0; OUT behind DAY 60 by RULE 0, behind DAY 61 by RULE 1
        for (int n = 0; n <= 60; n++) {
            x.note(-1, 0);
            Due.is("day " + n, x.note(n, (n + 1) % 3), 1);
            Due.is("by so many, day " + n, x.ruled(0), n < 60 ? 3 : 2);
            x.note(-1, 0);
            x.note(n, (n + 2) % 3);
            Due.is("by none, day " + n, x.ruled(0), 0);
        }
        RingKiln out = Kilns.of(RING, "feed 4 if day<50", "feed 4 if day<51");
        out.note(60, -1);
        Due.is("out behind day 60", out.ruled(0), 1);
        Due.is("by rule 0", out.ruled(1), 0);
        // NOTES in any order, and of one DAY twice
        RingKiln y = Kilns.of(RING);
        y.note(60, 1);
        y.note(0, 1);
        y.note(31, 2);
        y.note(0, 1);
        Due.is("in any order", y.ruled(0), 1);
        y.note(0, 2);
        Due.is("two of one day", y.ruled(0), 0);
    }

    private static void notesOut() {
        Due.under("or OUT (NONE)");
        RingKiln x = Kilns.of(COOLING);
        Due.is("out behind day 0", x.note(0, -1), 1);
        Due.is("so it was", x.ruled(0), 1);
        Due.is("out behind day 60", x.note(60, -1), 2);
        Due.is("so it was then", x.ruled(0), 1);
        RingKiln y = Kilns.of(COOLING);
        y.note(0, 0);
        Due.is("so it was not", y.ruled(0), 0);
        RingKiln never = Kilns.of("kiln 9 0");
        never.note(0, -1);
        Due.is("there was no fire", never.ruled(0), 1);
        never.note(60, 8);
        Due.is("nor in the ninth", never.ruled(0), 0);
    }

    private static void noNotesThen() {
        Due.under("A NOTE (n NONE: there are none then, 0): how many");
        RingKiln x = Kilns.of(COOLING);
        x.note(0, 0);
        x.note(5, 2);
        Due.is("by none", x.ruled(0), 0);
        int[] any = {0, -1, -2, 3, Integer.MAX_VALUE, Integer.MIN_VALUE};
        for (int chamber : any) {
            x.note(0, 0);
            Due.is("none then, " + chamber, x.note(-1, chamber), 0);
            Due.is("notes", x.count(11), 0);
        }
        Due.is("all are so", x.ruled(0), 1);
        Due.is("no kiln", new RingKiln().note(-1, 0), 0);
        for (int i = 0; i < 10; i++) {
            x.note(0, -1);
        }
        Due.is("of ten", x.note(-1, 0), 0);
        Due.is("one again", x.note(0, 0), 1);
        Due.is("it alone counts", x.ruled(0), 0);
    }

    private static void noteRefused() {
        Due.under("-2, and nothing happens, without these (chamber NONE: OUT), or a KILN");
        RingKiln x = Kilns.of(COOLING);
        x.note(0, -1);
        int[][] wrong = {{61, 0}, {-2, 0}, {0, 3}, {0, -2}, {60, 9}, {Integer.MAX_VALUE, 0}, {Integer.MIN_VALUE, 0},
            {0, Integer.MAX_VALUE}, {0, Integer.MIN_VALUE}, {61, -1}};
        for (int[] w : wrong) {
            Due.is("note " + w[0] + ", " + w[1], x.note(w[0], w[1]), -2);
            Due.is("one it stays", x.count(11), 1);
        }
        Due.is("as it was", x.ruled(0), 1);
        Due.is("the last chamber", x.note(0, 2), 2);
        RingKiln none = new RingKiln();
        Due.is("no kiln", none.note(0, 0), -2);
        Due.is("no kiln, out", none.note(0, -1), -2);
        Due.is("no notes", none.count(11), 0);
    }

    private static void ruledIs(RingKiln x, int many, int first) {
        Due.is("ruled: how many", x.ruled(0), many);
        Due.is("ruled: the first", x.ruled(1), first);
    }

    /** OUT when it is BURNT 13: behind DAY 3 by RULE 0, DAY 2 by RULES 1 and 2, DAY 1 by the others and by none. */
    private static RingKiln sixRules() {
        return Kilns.of("kiln 3 99;clay 0 13;set 0 0;fire 0", "feed 0", "feed 1", "feed 2", "feed 4", "feed 8", "feed 9");
    }

    private static void ruledOfAll() {
        Due.under("RULED what 0: how many, 1: the first (NONE: none; -2: there is none such).");
        ruledIs(Kilns.of(COOLING), 1, -1);
        ruledIs(sixRules(), 7, -1);
        // FED 0: 5 9 12 14; 1: 5 9 13; 2: 6 11 16; 4: 7 14; 8: 9 20; 9: 9 21
        int[] out = {3, 2, 2, 1, 1, 1};
        RingKiln x = sixRules();
        for (int rule = 0; rule < 6; rule++) {
            x.force(rule);
            Due.is("out by rule " + rule, x.out(), out[rule]);
        }
        RingKiln day1 = sixRules();
        day1.note(1, -1);
        ruledIs(day1, 4, -1);
        RingKiln day2 = sixRules();
        day2.note(1, 0);
        ruledIs(day2, 3, 0);
        day2.note(2, -1);
        ruledIs(day2, 2, 1);
        RingKiln day3 = sixRules();
        day3.note(2, 0);
        ruledIs(day3, 1, 0);
        RingKiln last = Kilns.of("kiln 3 99;clay 0 9;set 0 0;fire 0", "feed 0", "feed 0", "feed 0", "feed 0", "feed 0",
                "feed 9");
        last.note(0, -1);
        ruledIs(last, 1, 5);
        last.note(0, 0);
        Due.under("-2: there is none such");
        ruledIs(last, 0, -2);
    }

    private static void ruledFromTheBeginOn() {
        Due.under("RULED: which of the RULES, and of none, so that from the begin on, all as the text told it, all NOTES are so: "
                + "how many; the first (none ahead of 0, told as NONE).");
        RingKiln x = sixRules();
        x.note(1, 0);
        x.note(2, -1);
        x.force(5);
        Kilns.pass(x, 4);
        x.buy(99);
        x.set(1, 0);
        ruledIs(x, 2, 1);
        x.undo();
        x.force(-1);
        ruledIs(x, 2, 1);
    }

    private static void ruledRefused() {
        Due.under("-3 for others, or without a KILN.");
        int[] wrong = {-1, 2, Integer.MAX_VALUE, Integer.MIN_VALUE};
        for (int what : wrong) {
            Due.is("ruled " + what, sixRules().ruled(what), -3);
        }
        Due.is("no kiln, 0", new RingKiln().ruled(0), -3);
        Due.is("no kiln, 1", new RingKiln().ruled(1), -3);
    }

    private static void lookIs(RingKiln x, int day, int many) {
        Due.is("look: the day", x.look(0), day);
        Due.is("look: how many", x.look(1), many);
    }

    private static void lookPartsBest() {
        Due.under("LOOK: the DAY (0 to 60) behind which these part best by where the FIRE is: the most alike are fewest");
        // OUT behind DAY 1: four, behind DAY 2: six, behind DAY 3: seven
        lookIs(sixRules(), 1, 4);
        RingKiln three = sixRules();
        three.note(1, 0);
        // OUT behind DAY 2: two of three
        lookIs(three, 2, 2);
        three.note(2, -1);
        lookIs(three, 0, 2);
        RingKiln one = sixRules();
        one.note(2, 0);
        lookIs(one, 0, 1);
        // behind DAY 1 in CHAMBERS 1 1 2, behind DAY 2 in 2, OUT, 0
        RingKiln ring = Kilns.of("kiln 3 99;clay 0 2;clay 0 9;set 0 1;set 1 0;set 2 1;fire 0", "feed 0", "feed 9");
        int[][] places = {{0, 0, 1}, {1, 1, 2}, {2, -1, 0}};
        for (int day = 0; day < 3; day++) {
            for (int rule = -1; rule < 2; rule++) {
                ring.force(rule);
                Due.is("by " + rule + " behind day " + day, ring.ahead(0, day + 1, 3), places[day][rule + 1]);
            }
        }
        lookIs(ring, 2, 1);
    }

    private static void lookOfSeveral() {
        Due.under("of several the least; how many");
        RingKiln alike = Kilns.of(COOLING, "feed 4", "feed 2+2");
        lookIs(alike, 0, 3);
        lookIs(Kilns.of("kiln 3 0"), 0, 1);
        // parted from DAY 1 on, best from DAY 2 on
        RingKiln later = Kilns.of("kiln 3 99;clay 0 13;set 0 0;fire 0", "feed 0", "feed 0", "feed 1", "feed 1");
        lookIs(later, 2, 3);
    }

    private static void lookUpTo60() {
        Due.under("LOOK: the DAY (0 to 60)");
        RingKiln last = Kilns.of(RING, "feed 4 if day<50");
        lookIs(last, 60, 1);
        RingKiln beyond = Kilns.of(RING, "feed 4 if day<51");
        lookIs(beyond, 0, 2);
    }

    private static void lookRefused() {
        Due.under("LOOK what 0: the DAY, 1: how many; -2: no RULE is so. NONE for others, or without a KILN.");
        RingKiln x = sixRules();
        x.note(0, 2);
        lookIs(x, -2, -2);
        int[] wrong = {-1, 2, Integer.MAX_VALUE, Integer.MIN_VALUE};
        for (int what : wrong) {
            Due.is("look " + what, x.look(what), -1);
            Due.is("look " + what, sixRules().look(what), -1);
        }
        Due.is("no kiln, 0", new RingKiln().look(0), -1);
        Due.is("no kiln, 1", new RingKiln().look(1), -1);
    }

    private static void seeds() {
        Due.under("x becomes a number: what it was; NONE, and nothing happens, below 0.");
        RingKiln x = new RingKiln();
        Due.is("0 at first", x.seed(0), 0);
        Due.is("0", x.seed(1), 0);
        Due.is("1", x.seed(Integer.MAX_VALUE), 1);
        int[] wrong = {-1, -2, Integer.MIN_VALUE};
        for (int below : wrong) {
            Due.is("below 0", x.seed(below), -1);
            Due.is("x", x.count(13), Integer.MAX_VALUE);
        }
        Due.is("the most", x.seed(0), Integer.MAX_VALUE);
    }

    private static long drawnBehind(long x) {
        return (x * 1103515245L + 12345L) % 2147483648L;
    }

    /** CHAMBER 0 is GOOD behind DAY 0, if no rain came on it. */
    private static RingKiln dry(int chambers) {
        return Kilns.of("kiln " + chambers + " 0;clay 0 5;set 0 0;fire 0");
    }

    private static final int[] SEEDS = {0, 1, 2, 3, 7, 65535, 65536, 12345678, 1 << 30, Integer.MAX_VALUE - 1,
        Integer.MAX_VALUE};

    private static void draws() {
        Due.under("DRAWS: x (0 to 2147483647; 0 at first) becomes x * 1103515245 + 12345, of 2147483648 the rest; a DRAW is x / "
                + "65536.");
        for (int seed : SEEDS) {
            for (int chambers = 3; chambers <= 9; chambers++) {
                RingKiln x = dry(chambers);
                x.seed(seed);
                long second = drawnBehind(drawnBehind(seed)) / 65536;
                Due.is("rain by " + seed + ", " + chambers, x.rains(1, 1, 100, 0), second % chambers == 0 ? 0 : 1);
                Due.under("(x as it was)");
                Due.is("x", x.count(13), seed);
            }
        }
    }

    private static void rainsBelowP() {
        Due.under("ahead of each a DRAW mod 100; is it below p (0 to 100), a DRAW mod CHAMBERS");
        int onTheFirst = 0;
        for (int seed = 0; seed < 60; seed++) {
            RingKiln x = dry(3);
            x.seed(seed);
            int first = (int) (drawnBehind(seed) / 65536 % 100);
            boolean onIt = drawnBehind(drawnBehind(seed)) / 65536 % 3 == 0;
            onTheFirst += onIt ? 1 : 0;
            Due.is("never by 0", x.rains(1, 1, 0, 0), 1);
            Due.is("not by as many as drawn", x.rains(1, 1, first, 0), 1);
            Due.is("by one more", x.rains(1, 1, first + 1, 0), onIt ? 0 : 1);
            Due.is("always by 100", x.rains(1, 1, 100, 0), onIt ? 0 : 1);
        }
        Due.holds("some of them on it", onTheFirst > 5 && onTheFirst < 55);
    }

    private static void rainsTimes() {
        Due.under("how many CHAMBERS are GOOD at the end; how WARM all are then, together, both over all times");
        for (int seed : SEEDS) {
            RingKiln x = dry(3);
            x.seed(seed);
            long drawn = seed;
            int good = 0;
            for (int m = 1; m <= 10; m++) {
                drawn = drawnBehind(drawn);
                if (drawn / 65536 % 100 < 70) {
                    drawn = drawnBehind(drawn);
                    good += drawn / 65536 % 3 == 0 ? 0 : 1;
                } else {
                    good++;
                }
                Due.is("good in " + m + " times by " + seed, x.rains(m, 1, 70, 0), good);
                Due.is("warm in " + m + " times by " + seed, x.rains(m, 1, 70, 1), 33 * m);
            }
        }
    }

    private static void rainsUpTo60Days() {
        Due.under("RAINS m times (1 to 10) n DAYS (1 to 60)");
        int[] days = {1, 2, 59, 60};
        for (int n : days) {
            RingKiln x = Kilns.under("feed 1", "kiln 4 999;clay 20 30;clay 0 20;set 0 0;set 1 0;set 2 1;fire 0");
            int warm = 0;
            for (int c = 0; c < 4; c++) {
                warm += x.ahead(c, n, 0);
            }
            int good = Integer.bitCount(x.goods(n));
            Due.is("good in " + n, x.rains(1, n, 0, 0), good);
            Due.is("warm in " + n, x.rains(1, n, 0, 1), warm);
            Due.is("good in " + n + ", ten times", x.rains(10, n, 0, 0), 10 * good);
            Due.is("warm in " + n + ", ten times", x.rains(10, n, 0, 1), 10 * warm);
        }
    }

    private static void rainsOnWhat() {
        Due.under("is that one SET and BURNT 0, it is 3 more WET");
        for (int seed : SEEDS) {
            // an EMPTY one is not WET by rain: nothing is FED by how damp it is
            RingKiln empty = Kilns.under("feed damp*3", "kiln 3 99;clay 0 60;set 0 0;fire 0");
            empty.seed(seed);
            Due.is("on an empty one", empty.rains(1, 5, 100, 1), 15);
            // what is BURNT is not WET by rain: NEEDS 9, BURNT 5 and 4
            RingKiln burnt = Kilns.of("kiln 3 0;clay 0 9;set 0 0;fire 0");
            burnt.day();
            burnt.seed(seed);
            Due.is("on a burnt one", burnt.rains(10, 1, 100, 0), 10);
        }
        // likewise in CHAMBER 2, the other ones are EMPTY
        for (int seed : SEEDS) {
            RingKiln last = Kilns.of("kiln 3 0;clay 0 9;set 2 0;fire 2");
            last.day();
            last.seed(seed);
            Due.is("on a burnt one in 2", last.rains(10, 1, 100, 0), 10);
        }
        // x 0: rain on CHAMBER 0, then on 1; WET 2 and 3 is dry behind DAY 0 and BURNT 4 behind DAY 1, WET 3 and 3 is not
        RingKiln three = Kilns.of("kiln 3 0;clay 2 4;set 0 0;fire 0");
        Due.is("wet 5, then dry", three.rains(1, 2, 100, 0), 1);
        RingKiln four = Kilns.of("kiln 3 0;clay 3 4;set 0 0;fire 0");
        Due.is("wet 6, then not", four.rains(1, 2, 100, 0), 0);
    }

    private static void rainsAtMost60() {
        Due.under("it is 3 more WET (60 at most)");
        // CHAMBERS 1 and 2 are rained on for weeks ahead of the heat; WET 61 would be a DAY too much once
        RingKiln wet = Kilns.under("feed 1 if warm<9 and day<34;feed 0 if day<34;feed 6",
                "kiln 3 999;clay 29 31;clay 30 9;set 0 0;set 1 1;set 2 1;fire 0");
        wet.seed(433);
        Due.is("60 at most", wet.rains(10, 46, 88, 0), 5);
    }

    private static void rainsRefused() {
        Due.under("RAINS what 0: GOOD ones, 1: how WARM. NONE without these, or a KILN.");
        RingKiln x = dry(3);
        int[][] wrong = {{0, 1, 0, 0}, {11, 1, 0, 0}, {-1, 1, 0, 0}, {1, 0, 0, 0}, {1, 61, 0, 0}, {1, -1, 0, 0},
            {1, 1, -1, 0}, {1, 1, 101, 0}, {1, 1, 0, -1}, {1, 1, 0, 2}, {Integer.MAX_VALUE, 1, 0, 0},
            {1, Integer.MAX_VALUE, 0, 0}, {1, 1, Integer.MAX_VALUE, 0}, {1, 1, Integer.MIN_VALUE, 0}};
        for (int[] w : wrong) {
            Due.is("rains " + w[0] + ", " + w[1] + ", " + w[2] + ", " + w[3], x.rains(w[0], w[1], w[2], w[3]), -1);
            Due.is("x", x.count(13), 0);
        }
        Due.is("no kiln", new RingKiln().rains(1, 1, 0, 0), -1);
    }

    private static void countIs(RingKiln x, int... want) {
        for (int what = 0; what < want.length; what++) {
            Due.is("count " + what, x.count(what), want[what]);
        }
    }

    private static void counted() {
        Due.under("What 0: CHAMBERS, 1: CLAYS, 2: ORDERS, 3: RULES, 4: the RULE IN FORCE (NONE), 5: DAY, 6: the CHAMBER with "
                + "the FIRE (NONE: OUT, or no KILN), 7: COAL, 8: CHAMBERS that are SET, as bits, 9: STORE of all, 10: WASTE, "
                + "11: NOTES, 12: ACTS that can be UNDONE, 13: x, 14: bytes of the TAPE.");
        countIs(new RingKiln(), 0, 0, 0, 0, -1, 0, -1, 0, 0, 0, 0, 0, 0, 0, 0);
        countIs(Kilns.of("kiln 9 999;clay 1 1;clay 1 1;clay 1 1;set 8 2;fire 8;order 0 1 1"), 9, 3, 1, 0, -1, 0, 8, 999, 256,
                0, 0, 0, 0, 0, 0);
        RingKiln x = Kilns.of("kiln 4 20;clay 0 9;clay 0 9;order 0 1 1;order 0 1 1", "feed 0", "feed 0", "feed 0");
        x.force(2);
        Kilns.bake(x, 0, 0);
        Kilns.bake(x, 2, 1);
        x.set(1, 0);
        x.draw(1);
        x.set(3, 0);
        x.note(1, 1);
        x.seed(9);
        x.feed(0, 0, 0, 0, 0);
        // two times SET, LIGHT, four DAYS and DRAW, and three ACTS: 17
        countIs(x, 4, 2, 2, 3, 2, 8, -1, 20, 8, 2, 1, 1, 17, 9, 20);
    }

    private static void countedSets() {
        Due.under("8: CHAMBERS that are SET, as bits");
        RingKiln x = Kilns.of("kiln 9 0;clay 1 1");
        int bits = 0;
        for (int c = 8; c >= 0; c--) {
            x.set(c, 0);
            bits |= 1 << c;
            Due.is("set down to " + c, x.count(8), bits);
        }
        for (int c = 0; c < 9; c++) {
            x.draw(c);
            bits &= ~(1 << c);
            Due.is("drawn up to " + c, x.count(8), bits);
        }
    }

    private static void countRefused() {
        Due.under("NONE for others.");
        int[] wrong = {-1, -2, 15, 16, 99, Integer.MAX_VALUE, Integer.MIN_VALUE};
        for (int what : wrong) {
            Due.is("count " + what, Kilns.of(RING).count(what), -1);
            Due.is("no kiln, count " + what, new RingKiln().count(what), -1);
        }
    }

    private static void fourImages() {
        Due.under("All is as in an IMAGE: the DAY");
        RingKiln x = Kilns.of(RING);
        for (int k = 0; k < 4; k++) {
            Due.is("image " + k, x.image(k), k);
            x.buy(k + 1);
            x.day();
        }
        int[] coal = {999, 995, 993, 992};
        for (int k = 3; k >= 0; k--) {
            Due.is("back " + k, x.back(k), k);
            Due.is("day " + k, x.count(5), k);
            Due.is("acts " + k, x.count(12), 2 * k);
            Due.is("fire " + k, x.count(6), k % 3);
            Due.is("coal " + k, x.count(7), coal[k]);
        }
        Due.is("and on again", x.back(2), 2);
        Due.is("day 2", x.count(5), 2);
    }

    private static void imageMadeAgain() {
        Due.under("An IMAGE is made: the DAY");
        RingKiln x = Kilns.of(RING);
        Kilns.pass(x, 3);
        Due.is("made", x.image(0), 3);
        Kilns.pass(x, 2);
        Due.is("made again", x.image(0), 5);
        Kilns.pass(x, 2);
        Due.is("back to the later", x.back(0), 5);
        Due.is("day", x.count(5), 5);
        x.undo();
        Due.is("what comes then is not in it", x.back(0), 5);
        Due.is("day again", x.count(5), 5);
    }

    private static void imageOfAll() {
        Due.under("all but the RULES and the TAPE, as it is (the RULE IN FORCE, what can be UNDONE, too); gone back to, it is "
                + "as it was (these stay)");
        RingKiln x = Kilns.of("kiln 4 20;clay 0 9;order 0 1 1", "feed 0");
        x.force(0);
        Kilns.bake(x, 0, 0);
        x.note(2, 3);
        x.seed(6);
        Due.is("image", x.image(1), 4);
        x.send(0);
        x.set(1, 0);
        x.draw(1);
        x.buy(7);
        x.day();
        x.note(3, 3);
        x.seed(7);
        x.force(-1);
        Texts.tell(x, "feed 9");
        x.rule();
        Texts.tell(x, "kiln 9 9;clay 1 1;clay 2 2");
        x.kiln();
        x.feed(1, 2, 3, 4, 5);
        Due.is("back", x.back(1), 4);
        countIs(x, 4, 1, 1, 2, 0, 4, -1, 20, 0, 1, 0, 1, 7, 6, 20);
        Due.is("not sent", x.order(0, 3), -1);
        Due.is("store", x.clay(0, 2), 1);
        Due.is("wet of the clay", x.clay(0, 0), 0);
        Due.is("the draw can be undone", x.undo(), 6);
        Due.is("good", x.chamber(0, 4), 2);
        Due.is("the later rule is there", x.force(1), 0);
        Due.is("back once more", x.back(1), 4);
        Due.is("the rule in force then", x.count(4), 0);
    }

    /** More ACTS and NOTES come behind the IMAGE than it holds. */
    private static void imageOfWhatCanBeUndone() {
        Due.under("(the RULE IN FORCE, what can be UNDONE, too)");
        RingKiln x = Kilns.of("kiln 3 0;clay 0 9;set 0 0;fire 0");
        for (int i = 1; i <= 25; i++) {
            x.buy(i);
        }
        // OUT behind DAY 1
        x.note(0, 0);
        x.image(0);
        for (int i = 1; i <= 25; i++) {
            x.buy(1);
        }
        x.note(-1, 0);
        x.note(3, 2);
        x.note(1, 2);
        Due.is("by none", x.ruled(0), 0);
        x.back(0);
        Due.is("notes", x.count(11), 1);
        Due.is("as in the image", x.ruled(0), 1);
        int coal = 25 * 26 / 2;
        for (int i = 25; i >= 6; i--) {
            Due.is("coal", x.count(7), coal);
            Due.is("undo", x.undo(), i - 6);
            coal -= i;
        }
        Due.is("coal at last", x.count(7), 15);
        Due.is("no more", x.undo(), -2);
    }

    private static void imageOfNoKiln() {
        Due.under("An IMAGE is made: the DAY; NONE without it.");
        RingKiln x = new RingKiln();
        x.seed(4);
        Due.is("of no kiln", x.image(3), 0);
        Texts.tell(x, RING);
        x.kiln();
        x.seed(5);
        Kilns.pass(x, 2);
        Due.is("back to none", x.back(3), 0);
        countIs(x, 0, 0, 0, 0, -1, 0, -1, 0, 0, 0, 0, 0, 0, 4, 0);
        Due.is("no day", x.day(), -1);
    }

    private static void imageRefused() {
        Due.under("NONE without it.");
        RingKiln x = Kilns.of(RING);
        int[] wrong = {-1, 4, 5, Integer.MAX_VALUE, Integer.MIN_VALUE};
        for (int k : wrong) {
            Due.is("image " + k, x.image(k), -1);
        }
        for (int k = 0; k < 4; k++) {
            Due.is("none was made", x.back(k), -1);
        }
    }

    private static void backRefused() {
        Due.under("NONE, and nothing happens, if it was never made, or without it.");
        RingKiln x = Kilns.of(RING);
        x.image(2);
        Kilns.pass(x, 2);
        int[] wrong = {0, 1, 3, -1, 4, Integer.MAX_VALUE, Integer.MIN_VALUE};
        for (int k : wrong) {
            Due.is("back " + k, x.back(k), -1);
            Due.is("day", x.count(5), 2);
            Due.is("acts", x.count(12), 2);
        }
        Due.is("a new object", new RingKiln().back(0), -1);
        Due.is("the one that was made", x.back(2), 0);
    }
}
