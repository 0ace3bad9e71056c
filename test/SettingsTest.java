/** Promises 1 to 5: a new object, settings, weights, trusts, hands. */
public final class SettingsTest {
    private static final int[] FIRST = {10, 5, 20, 1, 0, 1};
    private static final int[] LEAST = {0, 0, 0, 0, 0, 1};
    private static final int[] MOST = {200, 50, 90, 20, 9, 4};
    private static final int[] NOWHERE = {Integer.MIN_VALUE, -7, -1, 64, Integer.MAX_VALUE};

    private static final Check check = new Check("Settings");

    public static void main(String[] args) {
        newObject();
        constants();
        set();
        weight();
        trust();
        hands();
        check.finish();
    }

    private static void newObject() {
        DoubtfulTrunks x = new DoubtfulTrunks();
        for (int what = 0; what <= 18; what++) {
            check.due("1: count(" + what + ")", x.count(what), what < 6 ? FIRST[what] : 0);
        }
        for (int desk = 0; desk < 3; desk++) {
            for (int what = 0; what <= 4; what++) {
                check.due("1: desk(" + desk + ", " + what + ")", x.desk(desk, what), what == 0 ? 1 : 0);
            }
        }
        check.due("1: trunk(0, 0)", x.trunk(0, 0), -1);
        check.due("1: pieces(0, 0, 0)", x.pieces(0, 0, 0), -1);
        check.due("1: alike(0, 0)", x.alike(0, 0), -1);
        check.due("1: untilGone(0)", x.untilGone(0), -1);
        check.due("1: fate(0)", x.fate(0), -1);
        check.due("1: mostDoubted()", x.mostDoubted(), -6);
        check.due("1: bestHand()", x.bestHand(), -6);
        check.due("1: leastSmall()", x.leastSmall(), 0);
        check.due("1: fault()", x.fault(), 0);
        check.due("1: undo()", x.undo(), -5);
        check.due("1: restore(0)", x.restore(0), -5);
        check.due("1: restore(1)", x.restore(1), -5);
        for (int kind = 0; kind < 6; kind++) {
            check.due("1: weight(" + kind + ", 1)", x.weight(kind, 1), kind + 1);
        }
        for (int country = 0; country < 5; country++) {
            check.due("1: trust(" + country + ", 0)", x.trust(country, 0), 5);
        }
        check.due("1: another object has its own state", new DoubtfulTrunks().weight(5, 1), 6);
    }

    private static void constants() {
        int[] errors = {DoubtfulTrunks.NO_SUCH, DoubtfulTrunks.BAD_VALUE, DoubtfulTrunks.BAD_TEXT,
                DoubtfulTrunks.TOO_MANY, DoubtfulTrunks.NOT_POSSIBLE, DoubtfulTrunks.NONE};
        int[] settings = {DoubtfulTrunks.SMALL, DoubtfulTrunks.FEE, DoubtfulTrunks.FINE,
                DoubtfulTrunks.DELAY, DoubtfulTrunks.TARE, DoubtfulTrunks.OPENS};
        for (int i = 0; i < 6; i++) {
            check.due("error code " + i, errors[i], -1 - i);
            check.due("setting " + i, settings[i], i);
        }
    }

    private static void set() {
        DoubtfulTrunks x = new DoubtfulTrunks();
        for (int setting = 0; setting < 6; setting++) {
            String call = "2: set(" + setting + ", ";
            check.due(call + "below)", x.set(setting, LEAST[setting] - 1), -2);
            check.due(call + "above)", x.set(setting, MOST[setting] + 1), -2);
            check.due(call + "far below)", x.set(setting, Integer.MIN_VALUE), -2);
            check.due(call + "far above)", x.set(setting, Integer.MAX_VALUE), -2);
            check.due("2: unchanged by errors", x.count(setting), FIRST[setting]);
            check.due(call + "most)", x.set(setting, MOST[setting]), FIRST[setting]);
            check.due(call + "least)", x.set(setting, LEAST[setting]), MOST[setting]);
            check.due(call + "first)", x.set(setting, FIRST[setting]), LEAST[setting]);
        }
        for (int setting = 0; setting < 6; setting++) {
            check.due("2: the others stay", x.count(setting), FIRST[setting]);
        }
        DoubtfulTrunks y = new DoubtfulTrunks();
        check.due("2: set(6, 0)", y.set(6, 0), -2);
        for (int setting : NOWHERE) {
            check.due("2: set(" + setting + ", 1)", y.set(setting, 1), -2);
        }
        check.due("2: an error is not recorded", y.count(18), 0);
        check.due("2: set to what it is", y.set(0, 10), 10);
        check.due("2: that is recorded, too", y.count(18), 1);
    }

    private static void weight() {
        DoubtfulTrunks x = new DoubtfulTrunks();
        check.due("3: weight(6, 1)", x.weight(6, 1), -1);
        check.due("3: NO_SUCH ahead of BAD_VALUE", x.weight(6, 0), -1);
        for (int kind : NOWHERE) {
            check.due("3: weight(" + kind + ", 1)", x.weight(kind, 1), -1);
        }
        for (int weight : new int[] {0, 10, -1, Integer.MIN_VALUE, Integer.MAX_VALUE}) {
            check.due("3: weight(0, " + weight + ")", x.weight(0, weight), -2);
        }
        check.due("3: an error is not recorded", x.count(18), 0);
        for (int kind = 0; kind < 6; kind++) {
            check.due("3: weight(kind, 9)", x.weight(kind, 9), kind + 1);
            check.due("3: weight(kind, 1)", x.weight(kind, 1), 9);
        }
        Check.come(x, "0:c4/");
        check.due("3: the doubt by weight 1", x.trunk(0, 3), 4 + 4);
        x.weight(2, 7);
        check.due("3: the doubt by weight 7", x.trunk(0, 3), 4 * 7 + 4);
        x.weight(3, 9);
        check.due("3: another kind's weight", x.trunk(0, 3), 4 * 7 + 4);
    }

    private static void trust() {
        DoubtfulTrunks x = new DoubtfulTrunks();
        check.due("4: trust(5, 1)", x.trust(5, 1), -1);
        check.due("4: NO_SUCH ahead of BAD_VALUE", x.trust(5, 10), -1);
        for (int country : NOWHERE) {
            check.due("4: trust(" + country + ", 1)", x.trust(country, 1), -1);
        }
        for (int trust : new int[] {-1, 10, Integer.MIN_VALUE, Integer.MAX_VALUE}) {
            check.due("4: trust(0, " + trust + ")", x.trust(0, trust), -2);
        }
        check.due("4: an error is not recorded", x.count(18), 0);
        for (int country = 0; country < 5; country++) {
            check.due("4: trust(country, 9)", x.trust(country, 9), 5);
            check.due("4: trust(country, 0)", x.trust(country, 0), 9);
        }
        Check.come(x, "3:a2/");
        check.due("4: the doubt without trust", x.trunk(0, 3), 2 + 9);
        x.trust(3, 9);
        check.due("4: the doubt with all trust", x.trunk(0, 3), 2);
        x.trust(2, 4);
        check.due("4: another country's trust", x.trunk(0, 3), 2);
    }

    private static void hands() {
        DoubtfulTrunks x = new DoubtfulTrunks();
        check.due("5: hands(3, 1)", x.hands(3, 1), -1);
        check.due("5: NO_SUCH ahead of BAD_VALUE", x.hands(3, 4), -1);
        for (int desk : NOWHERE) {
            check.due("5: hands(" + desk + ", 1)", x.hands(desk, 1), -1);
        }
        for (int hands : new int[] {-1, 4, Integer.MIN_VALUE, Integer.MAX_VALUE}) {
            check.due("5: hands(0, " + hands + ")", x.hands(0, hands), -2);
        }
        check.due("5: an error is not recorded", x.count(18), 0);
        for (int desk = 0; desk < 3; desk++) {
            check.due("5: hands(desk, 3)", x.hands(desk, 3), 1);
            check.due("5: hands(desk, 0)", x.hands(desk, 0), 3);
            check.due("5: desk(desk, 0)", x.desk(desk, 0), 0);
        }
        x.hands(1, 2);
        check.due("5: the desk's hands", x.desk(1, 0), 2);
        check.due("5: another desk's hands", x.desk(0, 0), 0);
    }
}
