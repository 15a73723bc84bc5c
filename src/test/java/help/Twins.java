import java.util.ArrayList;
import java.util.List;

/**
 * Shows that nothing happens: of two objects that were made alike one has the call, and all that can be asked, undone,
 * gone back to and read from the TAPE is then as with the other.
 */
final class Twins {
    interface Made {
        RingKiln make();
    }

    interface Call {
        int on(RingKiln x);
    }

    private static final int PARTS = 6;

    private Twins() {
    }

    static void nothingHappens(String call, int due, Made made, Call asked) {
        areAlike(call, () -> {
            RingKiln x = made.make();
            Due.is(call, asked.on(x), due);
            return x;
        }, made);
    }

    /** Each part has objects of its own, for asking it may change them. */
    static void areAlike(String what, Made one, Made other) {
        for (int part = 0; part < PARTS; part++) {
            List<String> got = told(one.make(), part);
            List<String> want = told(other.make(), part);
            int i = 0;
            while (i < want.size() && i < got.size() && got.get(i).equals(want.get(i))) {
                i++;
            }
            boolean same = i == want.size() && i == got.size();
            Due.holds("nothing happens by " + what + (same ? "" : ", but " + got.get(Math.min(i, got.size() - 1))), same);
        }
    }

    private static List<String> told(RingKiln x, int part) {
        List<String> told = new ArrayList<>();
        switch (part) {
            case 0:
                asItIs(told, x);
                break;
            case 1:
                asItWas(told, x);
                break;
            case 2:
                images(told, x);
                break;
            case 3:
                told.add("kiln " + x.kiln());
                asItIs(told, x);
                break;
            case 4:
                told.add("rule " + x.rule());
                rules(told, x);
                break;
            default:
                answers(told, x);
        }
        return told;
    }

    private static void asItIs(List<String> told, RingKiln x) {
        for (int what = 0; what <= 14; what++) {
            told.add("count " + what + ": " + x.count(what));
        }
        for (int c = 0; c < 9; c++) {
            for (int what = 0; what < 5; what++) {
                told.add("chamber " + c + ", " + what + ": " + x.chamber(c, what));
            }
        }
        for (int k = 0; k < 3; k++) {
            for (int what = 0; what < 3; what++) {
                told.add("clay " + k + ", " + what + ": " + x.clay(k, what));
            }
        }
        for (int k = 0; k < 4; k++) {
            for (int what = 0; what < 4; what++) {
                told.add("order " + k + ", " + what + ": " + x.order(k, what));
            }
        }
    }

    private static void asItWas(List<String> told, RingKiln x) {
        for (int i = 0; i <= 20; i++) {
            told.add("undo " + x.undo());
            for (int what = 5; what <= 10; what++) {
                told.add("count " + what + ": " + x.count(what));
            }
            for (int k = 0; k < 4; k++) {
                told.add("sent " + k + ": " + x.order(k, 3));
            }
            for (int what = 1; what < 4; what++) {
                told.add("chamber 3, " + what + ": " + x.chamber(3, what));
                told.add("chamber 4, " + what + ": " + x.chamber(4, what));
            }
        }
    }

    private static void images(List<String> told, RingKiln x) {
        for (int k = 0; k < 4; k++) {
            told.add("back " + k + ": " + x.back(k));
            asItIs(told, x);
            told.add("undo " + x.undo());
            told.add("day " + x.count(5));
        }
    }

    private static void rules(List<String> told, RingKiln x) {
        for (int rule = -1; rule < 6; rule++) {
            told.add("force " + rule + ": " + x.force(rule));
            for (int n = 1; n < 6; n++) {
                told.add("coal in " + n + ": " + x.ahead(0, n, 4));
            }
        }
    }

    private static void answers(List<String> told, RingKiln x) {
        for (int what = 0; what < 2; what++) {
            for (int clay = 0; clay < 3; clay++) {
                told.add("need " + x.need(clay, what));
                told.add("damp " + x.damp(clay, what));
                told.add("pence " + x.pence(97, clay));
            }
            told.add("ruled " + x.ruled(what));
            told.add("look " + x.look(what));
            told.add("meet " + x.meet(what));
            told.add("alike " + x.alike(what));
            told.add("rains " + x.rains(7, 9, 60, what));
            told.add("late " + x.late());
            told.add("out " + x.out());
        }
        for (int c = 0; c < 9; c++) {
            told.add("comes " + x.comes(c));
            told.add("ripe " + x.ripe(c));
            told.add("spoilt " + x.spoilt(c));
            told.add("cold " + x.cold(c));
            told.add("plan " + x.plan(c, 12, 0));
            told.add("row " + x.row(c, 3, 0));
            told.add("rests " + x.rests(c, (c + 1) % 9, 9, 0));
            told.add("wet in 4: " + x.ahead(c, 4, 1));
        }
    }
}
