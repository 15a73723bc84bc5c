/** The edges that the document names for a DAY, the ACTS, and what is told of CHAMBERS, CLAYS and ORDERS. */
public final class EdgesOfDays {
    /** Without COAL CHAMBER 0 is WARM 40 33 27 22 18 15 12 10 8 6 5 4, BURNT 0 5 9 12 14 16 17 18 19 20 20. */
    private static final String COOLING = "kiln 3 0;set 0 0;fire 0";
    private static final String YARD = "kiln 4 0;clay 0 9;clay 5 60;order 0 1 3;order 0 2 50;order 1 1 0;order 0 1 9";

    public static void main(String[] args) {
        rawGoodClinker();
        toldOfChambers();
        toldOfClays();
        toldOfOrders();
        fedAtLeastAndAtMost();
        fedAsFarAsThereIsCoal();
        fedWithoutARule();
        notFedWhenOut();
        warmerByFourTwoOne();
        warmAtMost99();
        anEighthDownwards();
        wetAtLeast0();
        burntAtMost200();
        aSixthUpwards();
        outBelow5();
        goesOnOrOut();
        goesRoundTheRing();
        dayIsOneMore();
        day999();
        noDayWithoutAKiln();
        setBelow20();
        setRefused();
        drawBelow20();
        drawToStoreOrWaste();
        drawRefused();
        keptAtMost99();
        lit();
        lightRefused();
        bought();
        buyRefused();
        sent();
        sendRefused();
        twentyUndone();
        eachActUndone();
        undoRefused();
        Due.end();
    }

    private static RingKiln cooling(String clay) {
        return Kilns.of(COOLING.replace(";set", ";clay " + clay + ";set"));
    }

    private static void rawGoodClinker() {
        Due.under("RAW, if it is less BURNT than its CLAY NEEDS, GOOD, if it is not RAW and at most twice as much BURNT as "
                + "that, else CLINKER");
        // BURNT 5 behind DAY 0, 9 behind DAY 1, 12 behind DAY 2
        int[][] want = {{6, 1, 1}, {5, 1, 2}, {3, 1, 2}, {2, 1, 3}, {9, 2, 2}, {10, 2, 1}, {4, 2, 3}, {6, 3, 2}, {5, 3, 3},
            {12, 3, 2}, {13, 3, 1}};
        for (int[] w : want) {
            RingKiln x = cooling("0 " + w[0]);
            Kilns.pass(x, w[1]);
            Due.is("needs " + w[0] + ", burnt " + x.chamber(0, 2), x.chamber(0, 4), w[2]);
        }
        Due.is("not burnt", cooling("0 1").chamber(0, 4), 1);
    }

    private static void toldOfChambers() {
        Due.under("Of a CHAMBER what 0: its CLAY (NONE: EMPTY), 1: how WET, 2: BURNT (both 0, if it is EMPTY), 3: WARM, 4: "
                + "0 EMPTY, 1 RAW, 2 GOOD, 3 CLINKER. -2 without these.");
        RingKiln x = Kilns.of("kiln 3 9;clay 4 1;clay 9 9;set 2 1;set 1 0;fire 1");
        x.day();
        x.day();
        // CHAMBER 1: WARM 40 + 16, 47 + 16; WET 4 - 7; CHAMBER 2: WARM 8 - 2 + 8 - 3, WET 9 - 1 - 1
        int[][] want = {{-1, 0, 0, 5, 0}, {0, 0, 7, 51, 3}, {1, 7, 0, 11, 1}};
        for (int c = 0; c < 3; c++) {
            for (int what = 0; what < 5; what++) {
                Due.is("chamber " + c + ", " + what, x.chamber(c, what), want[c][what]);
            }
        }
        int[][] wrong = {{-1, 0}, {3, 0}, {9, 3}, {0, -1}, {0, 5}, {Integer.MAX_VALUE, 0}, {Integer.MIN_VALUE, 0},
            {0, Integer.MAX_VALUE}, {0, Integer.MIN_VALUE}};
        for (int[] w : wrong) {
            Due.is("chamber " + w[0] + ", " + w[1], x.chamber(w[0], w[1]), -2);
        }
        Due.is("no kiln", new RingKiln().chamber(0, 0), -2);
        Due.is("the ninth", Kilns.of("kiln 9 0").chamber(8, 0), -1);
    }

    private static void toldOfClays() {
        Due.under("Of a CLAY what 0: WET, 1: NEEDS, 2: STORE. NONE without these.");
        RingKiln x = Kilns.of("kiln 3 0;clay 1 2;clay 3 4;clay 0 9");
        Kilns.bake(x, 0, 2);
        int[][] want = {{1, 2, 0}, {3, 4, 0}, {0, 9, 1}};
        for (int k = 0; k < 3; k++) {
            for (int what = 0; what < 3; what++) {
                Due.is("clay " + k + ", " + what, x.clay(k, what), want[k][what]);
            }
        }
        int[][] wrong = {{-1, 0}, {3, 0}, {0, -1}, {0, 3}, {Integer.MAX_VALUE, 0}, {0, Integer.MIN_VALUE}};
        for (int[] w : wrong) {
            Due.is("clay " + w[0] + ", " + w[1], x.clay(w[0], w[1]), -1);
        }
        Due.is("a clay that was not told", Kilns.of("kiln 3 0;clay 1 2").clay(1, 0), -1);
        Due.is("none was told", Kilns.of("kiln 3 0").clay(0, 0), -1);
        Due.is("no kiln", new RingKiln().clay(0, 0), -1);
    }

    private static void toldOfOrders() {
        Due.under("Of an ORDER what 0: the CLAY, 1: MANY, 2: DUE, 3: the DAY on which it was SENT (NONE: it is not). -2 "
                + "without these.");
        RingKiln x = Kilns.of("kiln 3 0;clay 9 9;clay 0 9;order 0 9 99;order 1 1 0;order 1 2 7;order 0 3 8");
        Kilns.bake(x, 0, 1);
        Kilns.pass(x, 2);
        x.send(1);
        int[][] want = {{0, 9, 99, -1}, {1, 1, 0, 6}, {1, 2, 7, -1}, {0, 3, 8, -1}};
        for (int k = 0; k < 4; k++) {
            for (int what = 0; what < 4; what++) {
                Due.is("order " + k + ", " + what, x.order(k, what), want[k][what]);
            }
        }
        int[][] wrong = {{-1, 0}, {4, 0}, {0, -1}, {0, 4}, {Integer.MAX_VALUE, 3}, {0, Integer.MIN_VALUE}};
        for (int[] w : wrong) {
            Due.is("order " + w[0] + ", " + w[1], x.order(w[0], w[1]), -2);
        }
        Due.is("an order that was not told", Kilns.of("kiln 3 0;clay 1 1;order 0 1 1").order(1, 0), -2);
        Due.is("none was told", Kilns.of("kiln 3 0").order(0, 3), -2);
        Due.is("no kiln", new RingKiln().order(0, 3), -2);
    }

    private static void fedAtLeastAndAtMost() {
        Due.under("says, 0 at least and 9 at most");
        String text = "kiln 3 500;clay 30 60;set 0 0;fire 0";
        int[] sums = {0, 1, 8, 9, 10, 11, 99999};
        for (int sum : sums) {
            RingKiln x = Kilns.under("feed " + sum, text);
            Due.is("fed by " + sum, x.day(), Math.min(9, sum));
            Due.is("coal by " + sum, x.count(7), 500 - Math.min(9, sum));
            Due.is("warm by " + sum, x.chamber(0, 3), cooled(40 + 4 * Math.min(9, sum)));
        }
        RingKiln below = Kilns.under("feed 3-4", text);
        Due.is("fed by -1", below.day(), 0);
        Due.is("coal by -1", below.count(7), 500);
        Due.is("warm by -1", below.chamber(0, 3), 33);
    }

    private static int cooled(int warm) {
        return warm - (warm + 5) / 6;
    }

    private static void fedAsFarAsThereIsCoal() {
        Due.under("without a RULE 4, as far as there is COAL");
        for (int coal = 0; coal <= 10; coal++) {
            RingKiln x = Kilns.under("feed 9", "kiln 3 " + coal + ";clay 30 60;set 0 0;fire 0");
            int fed = Math.min(9, coal);
            Due.is("of " + coal, x.day(), fed);
            Due.is("left of " + coal, x.count(7), coal - fed);
            Due.is("warm by " + coal, x.chamber(0, 3), cooled(40 + 4 * fed));
            Due.is("the next by " + coal, x.chamber(1, 3), cooled(2 * fed));
            Due.is("the one next to that by " + coal, x.chamber(2, 3), cooled(fed));
        }
    }

    private static void fedWithoutARule() {
        Due.under("without a RULE 4");
        for (int coal = 0; coal <= 6; coal++) {
            RingKiln x = Kilns.of("kiln 3 " + coal + ";clay 30 60;set 0 0;fire 0", "feed 9");
            Due.is("of " + coal, x.day(), Math.min(4, coal));
            Due.is("left of " + coal, x.count(7), Math.max(0, coal - 4));
        }
        RingKiln y = Kilns.under("feed 9", "kiln 3 99;clay 30 60;set 0 0;fire 0");
        y.force(-1);
        Due.is("none any more", y.day(), 4);
    }

    private static void notFedWhenOut() {
        Due.under("if the FIRE is not OUT, it is FED");
        RingKiln x = Kilns.under("feed 9", "kiln 3 99;clay 30 60;set 0 0");
        Due.is("fed", x.day(), 0);
        Due.is("coal", x.count(7), 99);
        Due.is("warm", x.chamber(0, 3) + x.chamber(1, 3) + x.chamber(2, 3), 0);
        Due.is("out it stays", x.count(6), -1);
        Due.is("a day it was", x.count(5), 1);
        x.force(-1);
        Due.is("fed without a rule", x.day(), 0);
        Due.is("coal stays", x.count(7), 99);
        // of nine CHAMBERS one, hot and much BURNT, has no more to do with a FIRE that is OUT
        RingKiln y = Kilns.under("feed 9", "kiln 9 999;clay 0 60;set 8 0;set 2 0;fire 8");
        for (int i = 0; i < 20; i++) {
            y.day();
            y.light(8);
        }
        y.day();
        Due.is("out again", y.count(6), -1);
        Due.is("burnt at most", y.chamber(8, 2), 200);
        int warm = y.chamber(8, 3);
        Due.is("not fed", y.day(), 0);
        Due.is("burnt as before", y.chamber(8, 2), 200);
        Due.is("cooler", y.chamber(8, 3), cooled(warm));
        Due.is("the other is cold", y.chamber(2, 3) + y.chamber(2, 2), 0);
    }

    private static void warmerByFourTwoOne() {
        Due.under("its CHAMBER is 4 times as much WARMER, the next one 2 times, the one next to that once");
        for (int fire = 0; fire < 5; fire++) {
            RingKiln x = Kilns.under("feed 9", "kiln 5 99;clay 30 60;set " + fire + " 0;fire " + fire);
            x.day();
            int[] want = {cooled(76), cooled(18), cooled(9), 0, 0};
            for (int i = 0; i < 5; i++) {
                int c = (fire + i) % 5;
                Due.is("fire in " + fire + ": warm " + c, x.chamber(c, 3), want[i]);
            }
        }
    }

    private static void warmAtMost99() {
        Due.under("(99 at most each)");
        // 40 + 36 = 76: 63; 63 + 36 = 99: 82; 82 + 36 = 118
        RingKiln x = Kilns.under("feed 9", "kiln 3 99;clay 30 60;set 0 0;fire 0");
        x.day();
        Due.is("76", x.chamber(0, 3), cooled(76));
        x.day();
        Due.is("99 just", x.chamber(0, 3), cooled(99));
        x.day();
        Due.is("99 at most", x.chamber(0, 3), cooled(99));
        // what was burnt last is the next one of what is lit: 82 + 18 = 100
        RingKiln y = Kilns.under("feed 9", "kiln 3 99;clay 0 21;set 0 0;set 1 0;fire 1");
        Kilns.pass(y, 2);
        Due.is("out", y.count(6), -1);
        Due.is("warm", y.chamber(1, 3), 82);
        Due.is("lit ahead of it", y.light(0), 13 + 30);
        y.day();
        Due.is("the next one 99 at most", y.chamber(1, 3), cooled(99));
        Due.under("which is 30 WARMER, 99 at most");
        RingKiln z = Kilns.under("feed 9", "kiln 3 99;clay 0 5;set 0 0;fire 0");
        z.day();
        Due.is("63 and 30", z.light(0), 93);
        z.day();
        Due.is("82 and 30", z.light(0), 99);
        Due.is("it is so", z.chamber(0, 3), 99);
    }

    private static void anEighthDownwards() {
        Due.under("Each CHAMBER that is SET has an eighth, downwards, of how WARM it is");
        int[] warm = {40, 33, 27, 22, 18, 15, 12, 10, 8, 6, 5, 4};
        RingKiln dry = cooling("0 60");
        RingKiln wet = cooling("30 60");
        int much = 0;
        for (int day = 0; day < warm.length; day++) {
            Due.is("warm at day " + day, dry.chamber(0, 3), warm[day]);
            much += warm[day] / 8;
            dry.day();
            wet.day();
            Due.is("burnt behind day " + day, dry.chamber(0, 2), much);
            Due.is("wet behind day " + day, wet.chamber(0, 1), 30 - much);
            Due.is("what is wet is not burnt", wet.chamber(0, 2), 0);
        }
        // an EMPTY one that is WARM neither dries nor burns, and is not filled by that
        RingKiln x = Kilns.under("feed 9", "kiln 3 99;clay 30 60;set 0 0;fire 0");
        Kilns.pass(x, 4);
        Due.holds("an empty one is warm", x.chamber(1, 3) > 20);
        Due.is("not burnt", x.chamber(1, 2), 0);
        Due.is("not wet", x.chamber(1, 1), 0);
        Due.is("empty", x.chamber(1, 0), -1);
    }

    private static void wetAtLeast0() {
        Due.under("is it WET, it is as much less WET (0 at least), else as much more BURNT");
        int[] wet = {1, 4, 5, 6};
        for (int w : wet) {
            RingKiln x = cooling(w + " 60");
            x.day();
            Due.is("wet " + w + " behind day 0", x.chamber(0, 1), Math.max(0, w - 5));
            Due.is("burnt of " + w + " behind day 0", x.chamber(0, 2), 0);
            x.day();
            Due.is("wet " + w + " behind day 1", x.chamber(0, 1), 0);
            Due.is("burnt of " + w + " behind day 1", x.chamber(0, 2), w > 5 ? 0 : 4);
        }
    }

    private static void burntAtMost200() {
        Due.under("else as much more BURNT (200 at most)");
        RingKiln x = Kilns.of("kiln 3 999;clay 0 1;set 0 0;set 1 0;set 2 0;fire 0");
        int burnt = 0;
        int more = 0;
        boolean beyond = false;
        for (int day = 0; day < 60; day++) {
            int fire = x.count(6);
            int heat = fire == 0 ? 16 : fire == 1 ? 4 : 8;
            more = (x.chamber(0, 3) + heat) / 8;
            x.day();
            beyond |= burnt < 200 && burnt + more > 200;
            burnt = Math.min(200, burnt + more);
            Due.is("burnt behind day " + day, x.chamber(0, 2), burnt);
        }
        Due.holds("it would be beyond 200 in one day", beyond);
        Due.holds("and it still is hot", more > 0);
        Due.is("200", x.chamber(0, 2), 200);
    }

    private static void aSixthUpwards() {
        Due.under("Each CHAMBER is less WARM by a sixth of it, upwards.");
        boolean[] seen = new boolean[100];
        for (int feed = 0; feed <= 9; feed++) {
            RingKiln x = Kilns.under("feed " + feed, "kiln 3 9;clay 0 1;set 0 0;fire 0");
            for (int day = 0; day < 25; day++) {
                int before = x.chamber(0, 3) + (x.count(6) == 0 ? 4 * Math.min(feed, x.count(7)) : 0);
                x.day();
                Due.is("of " + before, x.chamber(0, 3), before - (before % 6 == 0 ? before / 6 : before / 6 + 1));
                seen[before] = true;
            }
        }
        for (int warm = 0; warm <= 6; warm++) {
            Due.holds("warm " + warm + " was there", seen[warm]);
        }
        for (int rest = 0; rest < 6; rest++) {
            boolean there = false;
            for (int warm = 12 + rest; warm < 100; warm += 6) {
                there |= seen[warm];
            }
            Due.holds("a rest of " + rest + " was there", there);
        }
    }

    private static void outBelow5() {
        Due.under("If the FIRE is not OUT: is its CHAMBER less WARM than 5, it is OUT");
        RingKiln x = cooling("30 60");
        Kilns.pass(x, 10);
        Due.is("warm 5", x.chamber(0, 3), 5);
        Due.is("fire", x.count(6), 0);
        x.day();
        Due.is("warm 4", x.chamber(0, 3), 4);
        Due.is("out", x.count(6), -1);
        // with the next one SET it is OUT as well, for it is RAW
        RingKiln y = Kilns.of("kiln 3 0;clay 30 60;set 0 0;set 1 0;fire 0");
        Kilns.pass(y, 10);
        Due.is("fire still", y.count(6), 0);
        y.day();
        Due.is("out as well", y.count(6), -1);
        // an EMPTY, cold kiln, and one that was never lit, stay OUT
        RingKiln z = Kilns.of("kiln 3 9;clay 0 1;set 0 0;set 1 0");
        Kilns.pass(z, 3);
        Due.is("out it stays", z.count(6), -1);
    }

    private static void goesOnOrOut() {
        Due.under("if its CHAMBER is not RAW any more, it goes on to the next one, if that is SET, else it is OUT");
        // BURNT 5 behind DAY 0
        RingKiln raw = Kilns.of("kiln 3 0;clay 0 6;set 0 0;set 1 0;fire 0");
        raw.day();
        Due.is("raw by 1", raw.count(6), 0);
        RingKiln good = Kilns.of("kiln 3 0;clay 0 5;set 0 0;set 1 0;fire 0");
        good.day();
        Due.is("good just", good.count(6), 1);
        RingKiln clinker = Kilns.of("kiln 3 9;clay 0 2;set 0 0;set 1 0;fire 0");
        clinker.day();
        Due.is("clinker", clinker.count(6), 1);
        Due.is("clinker it is", clinker.chamber(0, 4), 3);
        clinker.day();
        Due.is("to an empty one it does not come", clinker.count(6), -1);
        RingKiln empty = Kilns.of("kiln 3 0;clay 0 5;set 0 0;set 2 0;fire 0");
        empty.day();
        Due.is("nor over it", empty.count(6), -1);
        // it goes on to one that is ripe, too, but one a DAY
        RingKiln ring = Kilns.of("kiln 3 99;clay 0 1;set 0 0;set 1 0;set 2 0;fire 0");
        for (int day = 1; day < 12; day++) {
            ring.day();
            Due.is("one a day " + day, ring.count(6), day % 3);
        }
    }

    private static void goesRoundTheRing() {
        Due.under("The next CHAMBER is that of the number 1 more, behind the last one CHAMBER 0.");
        for (int chambers = 3; chambers <= 9; chambers++) {
            int last = chambers - 1;
            String set = ";clay 0 1;clay 9 60;set " + last + " 0";
            RingKiln x = Kilns.of("kiln " + chambers + " 99" + set + ";set 0 1;fire " + last, "feed damp-2", "feed next*7",
                    "feed glow");
            x.force(0);
            Due.is("damp of chamber 0", x.ahead(0, 1, 4), 92);
            x.force(1);
            Due.is("chamber 0 is set", x.ahead(0, 1, 4), 92);
            x.day();
            Due.is("on to chamber 0", x.count(6), 0);
            Due.is("warm 0", x.chamber(0, 3), cooled(14));
            Due.is("warm 1", x.chamber(1, 3), cooled(7));
            RingKiln y = Kilns.of("kiln " + chambers + " 99" + set + ";fire " + last, "feed next*7+2");
            y.force(0);
            Due.is("chamber 0 is empty", y.day(), 2);
            Due.is("out ahead of chamber 0", y.count(6), -1);
        }
    }

    private static void dayIsOneMore() {
        Due.under("A DAY: how much was FED");
        RingKiln x = Kilns.under("feed day", "kiln 3 99;clay 30 60;set 0 0;fire 0");
        for (int day = 0; day < 6; day++) {
            Due.is("day", x.count(5), day);
            Due.is("fed by the day", x.day(), day);
        }
    }

    /** 512 calls never come so far, and later ones answer what they like: the program keeps to it all the same. */
    private static void day999() {
        Due.under("DAY is 1 more (999 at most).");
        RingKiln x = Kilns.of("kiln 3 999;clay 0 60;set 0 0");
        Kilns.pass(x, 999);
        Due.is("day 999", x.count(5), 999);
        Due.under("NONE, and nothing happens, without a KILN, or at DAY 999.");
        int acts = x.count(12);
        x.light(0);
        int coal = x.count(7);
        for (int i = 0; i < 3; i++) {
            Due.is("no day", x.day(), -1);
            Due.is("day 999 it stays", x.count(5), 999);
        }
        Due.is("no coal went", x.count(7), coal);
        Due.is("warm", x.chamber(0, 3), 30);
        Due.is("acts", x.count(12), acts);
        Due.is("the light is undone first", x.undo(), 19);
        Due.is("cold", x.chamber(0, 3), 0);
        Due.is("then the last day", x.undo(), 18);
        Due.is("day 998", x.count(5), 998);
        Due.is("which can be again", x.day(), 0);
        Due.under("DAYS go on by the RULE IN FORCE, beyond 999, too");
        RingKiln young = Kilns.of("kiln 3 999;clay 0 60;set 0 0");
        young.light(0);
        x.light(0);
        Due.is("out beyond 999", x.out(), 999 + young.out());
        Due.is("ripe beyond 999", x.ripe(0), 999 + young.ripe(0));
        Due.is("cold beyond 999", x.cold(0), 999 + young.cold(0));
        Due.is("alike beyond 999", x.alike(0), 999 + young.alike(0));
        Due.is("coal behind 100 days", x.ahead(0, 100, 4), young.ahead(0, 100, 4));
        Texts.tell(x, "feed 9 if day<1001");
        x.rule();
        x.force(0);
        Due.is("fed on days 999 and 1000", x.ahead(0, 5, 4), 999 - 18);
    }

    private static void noDayWithoutAKiln() {
        Due.under("NONE, and nothing happens, without a KILN");
        RingKiln x = new RingKiln();
        Due.is("no kiln", x.day(), -1);
        Due.is("day", x.count(5), 0);
        Due.is("acts", x.count(12), 0);
        Due.is("nothing to undo", x.undo(), -2);
    }

    /** CHAMBER 1 is WARM 19 or 20 behind DAY 1, by RULE 0 or 1. */
    private static RingKiln warmBeside(String more, int rule) {
        RingKiln x = Kilns.of("kiln 4 99;clay 30 60;set 0 0;fire 0" + more, "feed 9 if day=0;feed 4",
                "feed 9 if day=0;feed 5");
        x.force(rule);
        Kilns.pass(x, 2);
        Due.is("warm beside", x.chamber(1, 3), 19 + rule);
        return x;
    }

    private static void setBelow20() {
        Due.under("SET (a CHAMBER that is EMPTY and less WARM than 20 is SET with a CLAY: as WET as that, BURNT 0)");
        RingKiln x = warmBeside("", 0);
        Due.is("at 19", x.set(1, 0), 30);
        Due.is("wet", x.chamber(1, 1), 30);
        Due.is("burnt", x.chamber(1, 2), 0);
        Due.is("warm as it was", x.chamber(1, 3), 19);
        RingKiln y = warmBeside("", 1);
        Due.is("at 20", y.set(1, 0), -1);
        Due.is("empty", y.chamber(1, 4), 0);
        y.force(-1);
        Due.is("of another", y.set(2, 0), 30);
        // what was drawn leaves nothing behind for what is set then
        RingKiln z = Kilns.of(YARD);
        Kilns.bake(z, 0, 0);
        Due.is("set anew", z.set(0, 1), 5);
        Due.is("not burnt", z.chamber(0, 2), 0);
        Due.is("raw", z.chamber(0, 4), 1);
    }

    private static void setRefused() {
        Due.under("SET: how WET it is; NONE, and nothing happens, without these.");
        RingKiln x = Kilns.of(YARD);
        Due.is("wet 5", x.set(3, 1), 5);
        int[][] wrong = {{3, 0}, {3, 1}, {4, 0}, {-1, 0}, {0, 2}, {0, -1}, {Integer.MAX_VALUE, 0}, {Integer.MIN_VALUE, 0},
            {0, Integer.MAX_VALUE}, {0, Integer.MIN_VALUE}};
        for (int[] w : wrong) {
            Due.is("set " + w[0] + ", " + w[1], x.set(w[0], w[1]), -1);
            Due.is("one is set", x.count(8), 8);
            Due.is("one act", x.count(12), 1);
        }
        Due.is("its clay", x.chamber(3, 0), 1);
        Due.is("no clay", Kilns.of("kiln 3 0").set(0, 0), -1);
        Due.is("no kiln", new RingKiln().set(0, 0), -1);
    }

    private static void drawBelow20() {
        Due.under("DRAW (a CHAMBER that is SET, without the FIRE, less WARM than 20, is EMPTY");
        RingKiln x = warmBeside(";set 1 0", 0);
        Due.is("at 19", x.draw(1), 1);
        Due.is("empty", x.chamber(1, 0), -1);
        Due.is("not wet", x.chamber(1, 1), 0);
        Due.is("not burnt", x.chamber(1, 2), 0);
        Due.is("warm as it was", x.chamber(1, 3), 19);
        RingKiln y = warmBeside(";set 1 0", 1);
        Due.is("at 20", y.draw(1), -1);
        Due.is("its clay", y.chamber(1, 0), 0);
        RingKiln burnt = Kilns.of("kiln 3 0;clay 0 5;clay 3 60;set 2 0;set 1 1;fire 2");
        Kilns.pass(burnt, 4);
        Due.is("warm 18", burnt.chamber(2, 3), 18);
        Due.is("burnt 14", burnt.draw(2), 3);
        Due.is("not burnt then", burnt.chamber(2, 2), 0);
        Due.is("nor is it ahead", burnt.ahead(2, 1, 2), 0);
        Due.is("raw", burnt.draw(1), 1);
        Due.is("not wet then", burnt.chamber(1, 1), 0);
        RingKiln fire = cooling("30 60");
        Kilns.pass(fire, 10);
        Due.is("warm 5, with the fire", fire.draw(0), -1);
        fire.day();
        Due.is("warm 4, without it", fire.draw(0), 1);
    }

    private static void drawToStoreOrWaste() {
        Due.under("was it GOOD, STORE of its CLAY is 1 more, else WASTE");
        // BURNT 16 behind DAY 4, WARM 15; the FIRE is OUT, for the next one is EMPTY
        int[][] want = {{7, 3, 0, 1}, {8, 2, 1, 0}, {16, 2, 1, 0}};
        for (int[] w : want) {
            RingKiln x = Kilns.of("kiln 3 0;clay 0 9;clay 0 " + w[0] + ";clay 0 9;set 0 1;fire 0");
            Kilns.pass(x, 5);
            Due.is("burnt", x.chamber(0, 2), 16);
            Due.is("needs " + w[0], x.draw(0), w[1]);
            Due.is("store", x.clay(1, 2), w[2]);
            Due.is("store of others", x.clay(0, 2) + x.clay(2, 2), 0);
            Due.is("store of all", x.count(9), w[2]);
            Due.is("waste", x.count(10), w[3]);
        }
        RingKiln raw = Kilns.of(YARD);
        raw.set(0, 0);
        Due.is("raw", raw.draw(0), 1);
        Due.is("waste", raw.count(10), 1);
        Due.is("no store", raw.count(9), 0);
    }

    private static void drawRefused() {
        Due.under("DRAW: 1 RAW, 2 GOOD, 3 CLINKER, as it was; NONE, and nothing happens, without these.");
        RingKiln x = Kilns.of("kiln 4 0;clay 9 9;set 1 0;set 2 0;fire 2");
        int[] wrong = {0, 2, 3, 4, -1, Integer.MAX_VALUE, Integer.MIN_VALUE};
        for (int c : wrong) {
            Due.is("draw " + c, x.draw(c), -1);
            Due.is("set ones", x.count(8), 6);
            Due.is("waste", x.count(10), 0);
            Due.is("acts", x.count(12), 0);
        }
        Due.is("no kiln", new RingKiln().draw(0), -1);
    }

    private static void keptAtMost99() {
        Due.under("99 of each at most");
        RingKiln x = Kilns.of(YARD);
        for (int i = 1; i <= 102; i++) {
            x.set(0, 0);
            Due.is("raw " + i, x.draw(0), 1);
            Due.is("waste " + i, x.count(10), Math.min(99, i));
            Due.is("empty " + i, x.chamber(0, 4), 0);
        }
        Due.is("an act it is", x.count(12), 20);
        // two sorts: 99 of the one does not keep the other from being kept
        RingKiln y = Kilns.of("kiln 5 999;clay 0 6;clay 0 6;set 0 0;set 1 0;set 2 0;set 3 0;set 4 0;fire 0", "feed 3");
        y.force(0);
        int good = goodOnes(y, 100);
        Due.is("a hundred good ones", good, 100);
        Due.is("99 in store", y.clay(0, 2), 99);
        Due.is("none of the other", y.clay(1, 2), 0);
        Due.is("99 of all", y.count(9), 99);
        int cold = coldEmpty(y);
        Due.is("of the other", y.set(cold, 1), 0);
    }

    /** Round and round, what is GOOD drawn and set anew. */
    private static int goodOnes(RingKiln x, int want) {
        int good = 0;
        for (int round = 0; round < 400; round++) {
            x.day();
            for (int c = 0; c < 5; c++) {
                if (x.chamber(c, 3) < 20 && x.count(6) != c && x.chamber(c, 4) >= 2) {
                    good += x.draw(c) == 2 ? 1 : 0;
                    if (good == want) {
                        return good;
                    }
                    x.set(c, 0);
                }
            }
            if (x.count(6) < 0) {
                x.light(x.count(5) % 5);
            }
            if (x.count(7) < 10) {
                x.buy(99);
            }
        }
        return good;
    }

    private static int coldEmpty(RingKiln x) {
        for (int c = 0; c < x.count(0); c++) {
            if (x.chamber(c, 4) == 0 && x.chamber(c, 3) < 20) {
                return c;
            }
        }
        return -1;
    }

    private static void lit() {
        Due.under("LIGHT (the FIRE that is OUT is in a CHAMBER that is SET, which is 30 WARMER, 99 at most)");
        RingKiln x = Kilns.of("kiln 3 0;clay 30 60;set 0 0;set 2 0;fire 0");
        Kilns.pass(x, 11);
        Due.is("out", x.count(6), -1);
        Due.is("warm 4", x.chamber(0, 3), 4);
        Due.is("lit again", x.light(0), 34);
        Due.is("fire", x.count(6), 0);
        Due.is("the others are not warmer", x.chamber(1, 3) + x.chamber(2, 3), 0);
        Due.is("undone", x.undo(), 11);
        Due.is("the last one", x.light(2), 30);
        Due.is("fire in the last", x.count(6), 2);
        // one that is ripe can be lit, too: the FIRE goes on then
        RingKiln ripe = Kilns.of("kiln 3 0;clay 0 5;set 0 0;set 1 0;fire 1");
        ripe.day();
        Due.is("out, for 2 is empty", ripe.count(6), -1);
        Due.is("ripe", ripe.chamber(1, 4), 2);
        Due.is("lit", ripe.light(1), 63);
    }

    private static void lightRefused() {
        Due.under("LIGHT: how WARM it is then; NONE, and nothing happens, without these.");
        RingKiln x = Kilns.of("kiln 4 0;clay 9 9;set 1 0;set 2 0");
        int[] wrong = {0, 3, 4, -1, Integer.MAX_VALUE, Integer.MIN_VALUE};
        for (int c : wrong) {
            Due.is("light " + c, x.light(c), -1);
            Due.is("out", x.count(6), -1);
            Due.is("acts", x.count(12), 0);
        }
        Due.is("light", x.light(2), 30);
        for (int c = 0; c < 4; c++) {
            Due.is("while it burns", x.light(c), -1);
            Due.is("in 2", x.count(6), 2);
            Due.is("warm", x.chamber(c, 3), c == 2 ? 30 : 0);
            Due.is("one act", x.count(12), 1);
        }
        Due.is("no kiln", new RingKiln().light(0), -1);
    }

    private static void bought() {
        Due.under("BUY (1 to 99 COAL more, 999 at most)");
        RingKiln x = Kilns.of("kiln 3 0");
        Due.is("1", x.buy(1), 1);
        Due.is("99", x.buy(99), 100);
        RingKiln y = Kilns.of("kiln 3 950");
        Due.is("to 998", y.buy(48), 998);
        Due.is("to 999", y.buy(1), 999);
        Due.is("not beyond", y.buy(1), 999);
        Due.is("not by far", y.buy(99), 999);
        Due.is("acts they are", y.count(12), 4);
        Due.is("undone", y.undo(), 3);
        Due.is("999 before", y.count(7), 999);
        RingKiln z = Kilns.of("kiln 3 901");
        Due.is("99 to 999 by one too many", z.buy(99), 999);
        Due.is("it was 901", z.undo(), 0);
        Due.is("901 again", z.count(7), 901);
    }

    private static void buyRefused() {
        Due.under("BUY: COAL then; NONE, and nothing happens, without these, or a KILN.");
        RingKiln x = Kilns.of("kiln 3 50");
        int[] wrong = {0, 100, -1, -99, 999, Integer.MAX_VALUE, Integer.MIN_VALUE};
        for (int coal : wrong) {
            Due.is("buy " + coal, x.buy(coal), -1);
            Due.is("coal", x.count(7), 50);
            Due.is("acts", x.count(12), 0);
        }
        RingKiln none = new RingKiln();
        Due.is("no kiln", none.buy(1), -1);
        Due.is("no coal", none.count(7), 0);
    }

    private static void sent() {
        Due.under("SEND (an ORDER that is not SENT is SENT on this DAY, if STORE of its CLAY is MANY or more: it is as much "
                + "less)");
        RingKiln x = Kilns.of(YARD);
        Kilns.bake(x, 0, 0);
        Due.is("two of one", x.send(1), -1);
        Kilns.bake(x, 1, 0);
        Due.is("day", x.count(5), 8);
        Due.is("two of two", x.send(1), 0);
        Due.is("on day 8", x.order(1, 3), 8);
        Due.is("store", x.clay(0, 2), 0);
        Due.holds("undone", x.undo() >= 0);
        Due.is("one of two", x.send(0), 1);
        Due.is("store of one", x.clay(0, 2), 1);
        Due.is("two of one again", x.send(1), -1);
        x.day();
        Due.is("the other one of one", x.send(3), 0);
        Due.is("a day later", x.order(3, 3), 9);
        Due.is("the first one's day stays", x.order(0, 3), 8);
        RingKiln y = Kilns.of("kiln 9 0;clay 0 9;clay 0 9;clay 0 9;order 2 2 9;order 1 1 9;order 0 1 9");
        int[] clays = {0, 1, 1, 2, 2, 2};
        for (int i = 0; i < clays.length; i++) {
            Kilns.bake(y, i, clays[i]);
        }
        Due.is("two of three of clay 2", y.send(0), 1);
        Due.is("store of clay 2", y.clay(2, 2), 1);
        Due.is("one of two of clay 1", y.send(1), 1);
        Due.is("store of clay 1", y.clay(1, 2), 1);
        Due.is("store of clay 0", y.clay(0, 2), 1);
        Due.is("waste", y.count(10), 0);
        Due.is("the last", y.send(2), 0);
        Due.is("store of all", y.count(9), 2);
    }

    private static void sendRefused() {
        Due.under("SEND: STORE of its CLAY then; NONE, and nothing happens, without these.");
        RingKiln x = Kilns.of(YARD);
        Kilns.bake(x, 0, 0);
        Kilns.bake(x, 1, 0);
        x.send(0);
        int acts = x.count(12);
        // 0 is SENT, of 1 there is one too few, of the CLAY of 2 there is none
        int[] wrong = {0, 1, 2, 4, -1, Integer.MAX_VALUE, Integer.MIN_VALUE};
        for (int order : wrong) {
            Due.is("send " + order, x.send(order), -1);
            Due.is("store", x.clay(0, 2), 1);
            Due.is("acts", x.count(12), acts);
            Due.is("1 is not sent", x.order(1, 3), -1);
            Due.is("2 is not sent", x.order(2, 3), -1);
        }
        Due.is("0 was sent on day 8", x.order(0, 3), 8);
        Due.is("no kiln", new RingKiln().send(0), -1);
    }

    private static void twentyUndone() {
        Due.under("The last 20 ACTS can be UNDONE, the last first.");
        for (int acts = 19; acts <= 45; acts++) {
            RingKiln x = Kilns.of("kiln 3 0");
            for (int i = 1; i <= acts; i++) {
                x.buy(i % 3 + 1);
            }
            int[] coal = new int[acts + 1];
            for (int i = 1; i <= acts; i++) {
                coal[i] = coal[i - 1] + i % 3 + 1;
            }
            int most = Math.min(20, acts);
            for (int left = most - 1; left >= 0; left--) {
                Due.is("undo", x.undo(), left);
                Due.is("can be undone", x.count(12), left);
                Due.is("coal", x.count(7), coal[acts - most + left]);
            }
            Due.is("no more", x.undo(), -2);
            Due.is("coal stays", x.count(7), coal[acts - most]);
            Due.is("a new act", x.buy(7), coal[acts - most] + 7);
            Due.is("it can be undone", x.undo(), 0);
        }
    }

    private static void eachActUndone() {
        Due.under("The last ACT is UNDONE: how many more can be");
        RingKiln x = Kilns.of(YARD, "feed 1");
        x.buy(9);
        x.set(2, 1);
        x.light(2);
        x.day();
        Due.is("a day undone", x.undo(), 3);
        Due.is("day", x.count(5), 0);
        Due.is("coal", x.count(7), 9);
        Due.is("wet", x.chamber(2, 1), 5);
        Due.is("warm", x.chamber(2, 3), 30);
        Due.is("warm beside", x.chamber(3, 3), 0);
        Due.is("fire", x.count(6), 2);
        Due.is("the light undone", x.undo(), 2);
        Due.is("out", x.count(6), -1);
        Due.is("cold", x.chamber(2, 3), 0);
        Due.is("the set undone", x.undo(), 1);
        Due.is("empty", x.chamber(2, 4), 0);
        Due.is("the buy undone", x.undo(), 0);
        Due.is("no coal", x.count(7), 0);
        Kilns.bake(x, 0, 0);
        int day = x.count(5);
        int acts = x.count(12);
        Due.is("sent", x.send(0), 0);
        Due.is("the send undone", x.undo(), acts);
        Due.is("not sent", x.order(0, 3), -1);
        Due.is("store", x.clay(0, 2), 1);
        Due.is("the draw undone", x.undo(), acts - 1);
        Due.is("no store", x.clay(0, 2), 0);
        Due.is("good", x.chamber(0, 4), 2);
        Due.is("burnt", x.chamber(0, 2), 10);
        Due.is("on the same day", x.count(5), day);
        // RULES, what is IN FORCE, NOTES and x are no ACTS
        x.force(0);
        x.note(3, 2);
        x.seed(5);
        Due.is("a day undone again", x.undo(), acts - 2);
        Due.is("in force", x.count(4), 0);
        Due.is("notes", x.count(11), 1);
        Due.is("x", x.count(13), 5);
        Due.is("rules", x.count(3), 1);
    }

    private static void undoRefused() {
        Due.under("-2, and nothing happens: none can.");
        Due.is("no kiln", new RingKiln().undo(), -2);
        RingKiln x = Kilns.of("kiln 3 5;clay 1 1;set 0 0;fire 0");
        Due.is("no act", x.undo(), -2);
        Due.is("coal", x.count(7), 5);
        Due.is("warm", x.chamber(0, 3), 40);
        x.seed(3);
        x.note(1, 1);
        x.image(0);
        x.back(0);
        Due.is("still none", x.undo(), -2);
        x.buy(1);
        Due.is("one", x.undo(), 0);
        Due.is("none more", x.undo(), -2);
        Due.is("coal stays", x.count(7), 5);
        Due.is("none can", x.count(12), 0);
    }
}
