/** Objects for tests, brought to where a test begins. */
final class Kilns {
    private Kilns() {
    }

    /** A KILN with RULES, none of them IN FORCE. */
    static RingKiln of(String text, String... rules) {
        RingKiln x = new RingKiln();
        Texts.tell(x, text);
        Due.holds("kiln of '" + text + "'", x.kiln() >= 0);
        for (int i = 0; i < rules.length; i++) {
            Texts.tell(x, rules[i]);
            Due.is("rule of '" + rules[i] + "'", x.rule(), i);
        }
        return x;
    }

    /** A KILN with one RULE, which is IN FORCE. */
    static RingKiln under(String rule, String text) {
        RingKiln x = of(text, rule);
        Due.is("force of '" + rule + "'", x.force(0), -1);
        return x;
    }

    static void pass(RingKiln x, int days) {
        for (int i = 0; i < days; i++) {
            Due.holds("a day", x.day() >= 0);
        }
    }

    /** What kiln() and rule() answer to a FAULT. */
    static int fault(int place, int kind) {
        return -2 - (1 + 8 * place + kind);
    }

    /** What kiln() answers to a text; the TAPE is empty then, and there is a KILN only if there was no FAULT. */
    static void kilnIs(String text, int want) {
        RingKiln x = new RingKiln();
        Texts.tell(x, text);
        Due.is("kiln of '" + text + "'", x.kiln(), want);
        Due.is("bytes behind kiln of '" + text + "'", x.count(14), 0);
        Due.holds("a kiln of '" + text + "'", x.count(0) > 0 == want >= 0);
    }

    /** What rule() answers to a text, likewise. */
    static void ruleIs(String text, int want) {
        RingKiln x = new RingKiln();
        Texts.tell(x, text);
        Due.is("rule of '" + text + "'", x.rule(), want);
        Due.is("bytes behind rule of '" + text + "'", x.count(14), 0);
        Due.is("rules behind '" + text + "'", x.count(3), want >= 0 ? 1 : 0);
    }

    static String times(String part, int n) {
        return part.repeat(n);
    }

    /** SET, LIGHT, DAYS and DRAW of one CHAMBER without COAL, WET 0: BURNT 3 6 8 10, WARM 25 20 16 13. */
    static void bake(RingKiln x, int chamber, int clay) {
        x.set(chamber, clay);
        Due.is("bake: light", x.light(chamber), 30);
        int kind = -1;
        for (int i = 0; i < 5 && kind < 0; i++) {
            x.day();
            kind = x.draw(chamber);
        }
        Due.is("bake: good", kind, 2);
    }
}
