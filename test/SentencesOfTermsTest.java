/** The sentences of "Terms" that name a boundary case: conventions, settings, papers, desks, a turn. */
public final class SentencesOfTermsTest {
    private static final int NO_SUCH = -1, BAD_VALUE = -2, BAD_TEXT = -3, TOO_MANY = -4, NOT_POSSIBLE = -5, NONE = -6;

    private static final Sentences s = new Sentences("SentencesOfTerms");

    public static void main(String[] args) {
        constants();
        callsOfAnObject();
        errors();
        errorsChangeNothing();
        noneAndNumbers();
        settings();
        papersAndTrunks();
        desks();
        turnOrder();
        turnPassing();
        turnOpening();
        turnDelay();
        s.finish();
    }

    /** Trunks of the country 0 are trusted wholly: with it, a doubt is the sum of pieces times weights. */
    private static DoubtfulTrunks trusting(int small) {
        DoubtfulTrunks x = new DoubtfulTrunks();
        x.trust(0, 9);
        x.set(DoubtfulTrunks.SMALL, small);
        x.set(DoubtfulTrunks.DELAY, 0);
        return x;
    }

    /** As many trunks at this desk alone, each of the doubt 1 and nothing hidden, all desks with these hands. */
    private static DoubtfulTrunks queuedAt(int desk, int trunks, int hands) {
        DoubtfulTrunks x = trusting(0);
        for (int lower = 0; lower < desk; lower++) {
            x.hands(lower, 3);
        }
        x.hands(desk, 0);
        for (int trunk = 0; trunk < trunks; trunk++) {
            Check.come(x, "0:a1/");
        }
        if (desk > 0) {
            x.turn(trunks + 1);
        }
        for (int each = 0; each < 3; each++) {
            x.hands(each, hands);
        }
        return x;
    }

    // ---- conventions

    private static void constants() {
        s.of("`NO_SUCH = -1, BAD_VALUE = -2, BAD_TEXT = -3, TOO_MANY = -4, NOT_POSSIBLE = -5, NONE = -6`:"
                + " Error codes, and NONE: there is none.");
        int[] errors = {DoubtfulTrunks.NO_SUCH, DoubtfulTrunks.BAD_VALUE, DoubtfulTrunks.BAD_TEXT,
                DoubtfulTrunks.TOO_MANY, DoubtfulTrunks.NOT_POSSIBLE, DoubtfulTrunks.NONE};
        for (int error = 0; error < errors.length; error++) {
            s.due("the code " + error, errors[error], -1 - error);
        }

        s.of("`SMALL = 0, FEE = 1, FINE = 2, DELAY = 3, TARE = 4, OPENS = 5`: Settings.");
        int[] settings = {DoubtfulTrunks.SMALL, DoubtfulTrunks.FEE, DoubtfulTrunks.FINE,
                DoubtfulTrunks.DELAY, DoubtfulTrunks.TARE, DoubtfulTrunks.OPENS};
        for (int setting = 0; setting < settings.length; setting++) {
            s.due("the setting " + setting, settings[setting], setting);
        }
    }

    private static void callsOfAnObject() {
        s.of("An object is used for at most 512 calls after it has been made; what later calls answer is free.");
        DoubtfulTrunks changes = new DoubtfulTrunks();
        for (int call = 1; call <= 511; call++) {
            s.due("set, call " + call, changes.set(0, call % 100), call == 1 ? 10 : (call - 1) % 100);
        }
        s.due("undo, call 512", changes.undo(), 3);
        DoubtfulTrunks pads = new DoubtfulTrunks();
        for (int call = 1; call <= 510; call += 2) {
            s.due("put, call " + call, pads.put(Check.signs("00000000")), 8);
            s.due("wipe, call " + (call + 1), pads.wipe(), 8);
        }
        s.due("put, call 511", pads.put('0'), 1);
        s.due("fault, call 512", pads.fault(), 1);
        DoubtfulTrunks trunks = new DoubtfulTrunks();
        Sentences.fullQueues(trunks, "");
        for (int call = 49; call <= 511; call++) {
            s.due("ifTurned, call " + call, trunks.ifTurned(200, 0), 16);
        }
        s.due("bestHand, call 512", trunks.bestHand(), 0);
    }

    private static void errors() {
        s.of("NO_SUCH (-1), BAD_VALUE (-2), BAD_TEXT (-3), TOO_MANY (-4) and NOT_POSSIBLE (-5)");
        s.due("NO_SUCH", new DoubtfulTrunks().weight(6, 1), -1);
        s.due("BAD_VALUE", new DoubtfulTrunks().set(6, 1), -2);
        s.due("BAD_TEXT", new DoubtfulTrunks().read(), -3);
        s.due("TOO_MANY", Sentences.made(Sentences::fullPad).put('0'), -4);
        s.due("NOT_POSSIBLE", new DoubtfulTrunks().undo(), -5);

        s.of("it names its errors in the order in which they are checked, and the first one that applies is returned");
        s.refused("weight(6, 0)", Sentences.BUSY, x -> x.weight(6, 0), NO_SUCH);
        s.refused("weight(-1, 10)", Sentences.BUSY, x -> x.weight(-1, 10), NO_SUCH);
        s.refused("trust(5, -1)", Sentences.BUSY, x -> x.trust(5, -1), NO_SUCH);
        s.refused("trust(-1, 10)", Sentences.BUSY, x -> x.trust(-1, 10), NO_SUCH);
        s.refused("hands(3, 4)", Sentences.BUSY, x -> x.hands(3, 4), NO_SUCH);
        s.refused("hands(-1, -1)", Sentences.BUSY, x -> x.hands(-1, -1), NO_SUCH);
        s.refused("mend(7, 2, 0, 0)", Sentences.BUSY, x -> x.mend(7, 2, 0, 0), NO_SUCH);
        s.refused("mend(7, 0, 0, 10)", Sentences.BUSY, x -> x.mend(7, 0, 0, 10), NO_SUCH);
        s.refused("mend(2, 2, 6, 0)", Sentences.BUSY, x -> x.mend(2, 2, 6, 0), NO_SUCH);
        s.refused("mend(2, 0, 6, 10)", Sentences.BUSY, x -> x.mend(2, 0, 6, 10), NO_SUCH);
        s.refused("trunk(7, 10)", Sentences.BUSY, x -> x.trunk(7, 10), NO_SUCH);
        s.refused("pieces(7, 3, 0)", Sentences.BUSY, x -> x.pieces(7, 3, 0), NO_SUCH);
        s.refused("pieces(0, 3, 6)", Sentences.BUSY, x -> x.pieces(0, 3, 6), NO_SUCH);
        s.refused("alike(7, 2)", Sentences.BUSY, x -> x.alike(7, 2), NO_SUCH);
        s.refused("desk(3, 5)", Sentences.BUSY, x -> x.desk(3, 5), NO_SUCH);
        s.refused("read() of a fault, 16 in the queues", x -> Sentences.fullQueues(x, "0:/a"),
                DoubtfulTrunks::read, BAD_TEXT);
        s.refused("read() of a fault, 64 came", x -> Sentences.allCame(x, "0"), DoubtfulTrunks::read, BAD_TEXT);
        s.refused("turn(100) at the turn 9999", Sentences::lastTurn, x -> x.turn(100), BAD_VALUE);
        s.refused("turn(0) at the turn 9999", Sentences::lastTurn, x -> x.turn(0), BAD_VALUE);
        s.refused("put(0) on a full pad", Sentences::fullPad, x -> x.put(0), BAD_VALUE);
        s.refused("put(32) on a full pad", Sentences::fullPad, x -> x.put(32), BAD_VALUE);
        s.refused("restore(2), nothing saved", Sentences.NEW, x -> x.restore(2), BAD_VALUE);
        s.refused("restore(-1), nothing saved", Sentences.NEW, x -> x.restore(-1), BAD_VALUE);
    }

    private static void errorsChangeNothing() {
        s.of("A call that returns an error changes nothing.");
        s.refused("set(0, 201)", Sentences.BUSY, x -> x.set(0, 201), BAD_VALUE);
        s.refused("weight(6, 1)", Sentences.BUSY, x -> x.weight(6, 1), NO_SUCH);
        s.refused("weight(5, 0)", Sentences.BUSY, x -> x.weight(5, 0), BAD_VALUE);
        s.refused("trust(5, 1)", Sentences.BUSY, x -> x.trust(5, 1), NO_SUCH);
        s.refused("trust(4, 10)", Sentences.BUSY, x -> x.trust(4, 10), BAD_VALUE);
        s.refused("hands(3, 1)", Sentences.BUSY, x -> x.hands(3, 1), NO_SUCH);
        s.refused("hands(2, 4)", Sentences.BUSY, x -> x.hands(2, 4), BAD_VALUE);
        s.refused("read() of a fault", x -> Sentences.fullQueues(x, "0:/=g"), DoubtfulTrunks::read, BAD_TEXT);
        s.refused("read(), 16 in the queues", x -> Sentences.fullQueues(x, "0:/"), DoubtfulTrunks::read, TOO_MANY);
        s.refused("read(), 64 came", x -> Sentences.allCame(x, "0:/"), DoubtfulTrunks::read, TOO_MANY);
        s.refused("mend(7, 0, 0, 1)", Sentences.BUSY, x -> x.mend(7, 0, 0, 1), NO_SUCH);
        s.refused("mend(2, 0, 6, 1)", Sentences.BUSY, x -> x.mend(2, 0, 6, 1), NO_SUCH);
        s.refused("mend(2, 2, 0, 1)", Sentences.BUSY, x -> x.mend(2, 2, 0, 1), BAD_VALUE);
        s.refused("mend(2, 0, 0, 10)", Sentences.BUSY, x -> x.mend(2, 0, 0, 10), BAD_VALUE);
        s.refused("sendBack(1)", Sentences.BUSY, x -> x.sendBack(1), NO_SUCH);
        s.refused("turn(100)", Sentences.BUSY, x -> x.turn(100), BAD_VALUE);
        s.refused("turn(1) at the turn 9999", Sentences::lastTurn, x -> x.turn(1), TOO_MANY);
        s.refused("put(32)", Sentences.BUSY, x -> x.put(32), BAD_VALUE);
        s.refused("put('0') on a full pad", Sentences::fullPad, x -> x.put('0'), TOO_MANY);
        s.refused("undo() of nothing", Sentences.NEW, DoubtfulTrunks::undo, NOT_POSSIBLE);
        s.refused("save(2)", Sentences.BUSY, x -> x.save(2), BAD_VALUE);
        s.refused("restore(2)", Sentences.BUSY, x -> x.restore(2), BAD_VALUE);
        s.refused("restore(1), nothing saved", Sentences.BUSY, x -> x.restore(1), NOT_POSSIBLE);
    }

    private static void noneAndNumbers() {
        s.of("NONE (-6) is not an error; it is returned only if no error applies.");
        s.due("NONE", DoubtfulTrunks.NONE, NONE);
        DoubtfulTrunks x = new DoubtfulTrunks();
        for (int desk = 0; desk < 3; desk++) {
            x.hands(desk, 0);
        }
        Check.come(x, "0:/");
        s.due("untilGone of a trunk that stays", x.untilGone(0), NONE);
        s.due("untilGone of a trunk that did not come", x.untilGone(1), NO_SUCH);
        s.due("fate of a trunk that stays", x.fate(0), NONE);
        s.due("fate of a trunk that did not come", x.fate(1), NO_SUCH);
        x.sendBack(0);
        s.due("the desk of a trunk that is gone", x.trunk(0, 1), NONE);
        s.due("the desk of a trunk that did not come", x.trunk(1, 1), NO_SUCH);
        s.due("the place of a trunk that is gone", x.trunk(0, 2), NONE);
        s.due("the place of a trunk that did not come", x.trunk(1, 2), NO_SUCH);

        s.of("Everything is numbered from 0.");
        DoubtfulTrunks y = new DoubtfulTrunks();
        s.due("the first setting", y.set(0, 10), 10);
        s.due("the first kind", y.weight(0, 1), 1);
        s.due("the first country", y.trust(0, 5), 5);
        s.due("the first desk", y.hands(0, 1), 1);
        s.due("the first trunk", Check.come(y, "0:a1/"), 0);
        s.due("the first place", y.trunk(0, 2), 0);
        s.due("the first character", Check.faultOf(y, "x"), 0);
        s.due("the first slot", y.save(0), 0);
    }

    // ---- settings

    private static void settings() {
        s.of("SMALL (0 to 200; 10): doubt.");
        setting(DoubtfulTrunks.SMALL, 0, 200, 10);
        s.due("SMALL 0 settles no doubt of 1", settled(0, "0:a1/"), 0);
        s.due("SMALL 1 settles a doubt of 1", settled(1, "0:a1/"), 1);
        s.due("SMALL 199 settles no doubt of 200", settled(199, "0:b1d9e9f6/"), 0);
        s.due("SMALL 200 settles a doubt of 200", settled(200, "0:b1d9e9f6/"), 1);
        s.due("SMALL 200 settles no doubt of 201", settled(200, "0:a1b1d9e9f6/"), 0);

        s.of("FEE (0 to 50; 5), FINE (0 to 90; 20): coins.");
        setting(DoubtfulTrunks.FEE, 0, 50, 5);
        setting(DoubtfulTrunks.FINE, 0, 90, 20);
        for (int coins : new int[] {0, 1, 50}) {
            DoubtfulTrunks x = trusting(200);
            x.set(DoubtfulTrunks.FEE, coins);
            Check.come(x, "0:a1/=a9b9");
            x.turn(1);
            s.due("what FEE " + coins + " takes", x.trunk(0, 5), coins);
        }
        for (int coins : new int[] {0, 1, 90}) {
            DoubtfulTrunks x = trusting(0);
            x.set(DoubtfulTrunks.FINE, coins);
            Check.come(x, "0:a1/=a9b9");
            x.turn(3);
            s.due("what FINE " + coins + " takes for two kinds", x.trunk(0, 5), 2 * coins);
        }

        s.of("DELAY (0 to 20; 1): coins a turn.");
        setting(DoubtfulTrunks.DELAY, 0, 20, 1);
        for (int coins : new int[] {0, 1, 20}) {
            DoubtfulTrunks x = new DoubtfulTrunks();
            x.hands(0, 0);
            x.set(DoubtfulTrunks.DELAY, coins);
            Check.come(x, "0:/");
            x.turn(3);
            s.due("what DELAY " + coins + " takes in 3 turns", x.trunk(0, 5), 3 * coins);
        }

        s.of("TARE (0 to 9; 0): pieces.");
        setting(DoubtfulTrunks.TARE, 0, 9, 0);
        DoubtfulTrunks x = new DoubtfulTrunks();
        Check.come(x, "0:a9/");
        Check.come(x, "0:a1/");
        s.due("by TARE 0, a difference of 1", x.alike(1, 0), 0);
        x.set(DoubtfulTrunks.TARE, 8);
        s.due("by TARE 8, a difference of 9", x.alike(0, 0), 0);
        x.set(DoubtfulTrunks.TARE, 9);
        s.due("by TARE 9, a difference of 9", x.alike(0, 0), 1);

        s.of("OPENS (1 to 4; 1): trunks a turn.");
        setting(DoubtfulTrunks.OPENS, 1, 4, 1);
        for (int opens = 1; opens <= 4; opens++) {
            DoubtfulTrunks y = queuedAt(2, 4, 3);
            y.set(DoubtfulTrunks.OPENS, opens);
            y.turn(1);
            s.due("what 3 hands open by OPENS " + opens, y.count(10), Math.min(3, opens));
        }
    }

    private static void setting(int setting, int least, int most, int first) {
        s.due("at first, the setting " + setting, new DoubtfulTrunks().count(setting), first);
        s.range("the setting " + setting, Sentences.BUSY, least, most, (x, value) -> x.set(setting, value), BAD_VALUE);
        DoubtfulTrunks x = new DoubtfulTrunks();
        x.set(setting, least);
        s.due("the least of the setting " + setting, x.count(setting), least);
        x.set(setting, most);
        s.due("the greatest of the setting " + setting, x.count(setting), most);
    }

    /** How many trunks of this text pass in a turn at the desk 0, d and e weighing 9. */
    private static int settled(int small, String text) {
        DoubtfulTrunks x = trusting(small);
        x.weight(3, 9);
        x.weight(4, 9);
        Check.come(x, text);
        return x.turn(1);
    }

    // ---- papers, trunks

    private static void papersAndTrunks() {
        s.of("There are 6 kinds of things, 0 to 5, each with a weight, 1 to 9 (at first 1, 2, 3, 4, 5 and 6).");
        s.range("a weight of the kind", Sentences.BUSY, 0, 5, (x, kind) -> x.weight(kind, 1), NO_SUCH);
        s.range("a kind's pieces", Sentences.BUSY, 0, 5, (x, kind) -> x.pieces(2, 0, kind), NO_SUCH);
        s.range("the weight", Sentences.BUSY, 1, 9, (x, weight) -> x.weight(5, weight), BAD_VALUE);
        for (int kind = 0; kind < 6; kind++) {
            DoubtfulTrunks x = trusting(0);
            Check.come(x, "0:" + (char) ('a' + kind) + "1/");
            s.due("at first, the doubt of a piece of the kind " + kind, x.trunk(0, 3), kind + 1);
            x.weight(kind, 9);
            s.due("the doubt by the weight 9", x.trunk(0, 3), 9);
            x.weight(kind, 1);
            s.due("the doubt by the weight 1", x.trunk(0, 3), 1);
        }

        s.of("A paper declares for each kind how many pieces there are, 0 to 9.");
        s.range("pieces on the upper paper", Sentences.BUSY, 0, 9, (x, n) -> x.mend(2, 0, 4, n), BAD_VALUE);
        s.range("pieces on the lower paper", Sentences.BUSY, 0, 9, (x, n) -> x.mend(2, 1, 0, n), BAD_VALUE);
        DoubtfulTrunks x = new DoubtfulTrunks();
        Check.come(x, "0:a1b9/c1d9=e1f9");
        int[][] pieces = {{1, 9, 0, 0, 0, 0}, {0, 0, 1, 9, 0, 0}};
        for (int kind = 0; kind < 6; kind++) {
            s.due("the upper paper, kind " + kind, x.pieces(0, 0, kind), pieces[0][kind]);
            s.due("the lower paper, kind " + kind, x.pieces(0, 1, kind), pieces[1][kind]);
        }

        s.of("what is in it (pieces of each kind, 0 to 9, too), and a country, 0 to 4,"
                + " each of which has a trust, 0 to 9 (5 at first)");
        int[] truth = {0, 0, 0, 0, 1, 9};
        for (int kind = 0; kind < 6; kind++) {
            s.due("in truth, kind " + kind, x.pieces(0, 2, kind), truth[kind]);
        }
        s.range("a trust of the country", Sentences.BUSY, 0, 4, (y, country) -> y.trust(country, 1), NO_SUCH);
        s.range("the trust", Sentences.BUSY, 0, 9, (y, trust) -> y.trust(4, trust), BAD_VALUE);
        for (int country = 0; country < 5; country++) {
            DoubtfulTrunks y = new DoubtfulTrunks();
            Check.come(y, country + ":a1/");
            s.due("the country", y.trunk(0, 0), country);
            s.due("at first, the doubt of a trunk of the country " + country, y.trunk(0, 3), 1 + 9 - 5);
        }

        s.of("The papers disagree in a kind, if their pieces differ by more than TARE.");
        for (int tare = 0; tare <= 8; tare++) {
            DoubtfulTrunks y = new DoubtfulTrunks();
            y.set(DoubtfulTrunks.TARE, tare);
            Check.come(y, "0:" + (tare == 0 ? "" : "c" + tare) + "d" + (tare + 1) + "/");
            Check.come(y, "0:/" + (tare == 0 ? "" : "c" + tare) + "d" + (tare + 1));
            s.due("TARE " + tare + ", the upper one declares more", y.trunk(0, 4), 8);
            s.due("TARE " + tare + ", the lower one declares more", y.trunk(1, 4), 8);
        }

        s.of("Papers that disagree in no kind are alike.");
        String[] alikes = {"0:/", "0:/=a9", "0:a9b9c9d9e9f9/a9b9c9d9e9f9", "0:c1/c1="};
        for (String text : alikes) {
            DoubtfulTrunks y = new DoubtfulTrunks();
            Check.come(y, text);
            s.due("alike are " + text, y.alike(0, 0), 1);
        }
        for (int kind = 0; kind < 6; kind++) {
            DoubtfulTrunks y = new DoubtfulTrunks();
            Check.come(y, "0:a2b2c2d2e2f2/a2b2c2d2e2f2");
            y.mend(0, 1, kind, 1);
            s.due("one kind in which they disagree: " + kind, y.alike(0, 0), 0);
        }
        doubts();
    }

    private static void doubts() {
        s.of("The doubt of a trunk is 0, if its papers are alike;");
        DoubtfulTrunks x = new DoubtfulTrunks();
        x.trust(0, 0);
        Check.come(x, "0:/=f9");
        Check.come(x, "0:f3/f3");
        Check.come(x, "0:f3/f2");
        s.due("two empty papers, without trust", x.trunk(0, 3), 0);
        s.due("the same on both, without trust", x.trunk(1, 3), 0);
        s.due("one piece apart", x.trunk(2, 3), 6 + 9);
        x.set(DoubtfulTrunks.TARE, 1);
        s.due("one piece apart by TARE 1", x.trunk(2, 3), 0);

        s.of("otherwise it is, for all kinds in which they disagree, the difference of the pieces times the weight,"
                + " together, and 9 less the trust of its country more");
        DoubtfulTrunks y = new DoubtfulTrunks();
        Check.come(y, "4:a9f9/b9e9");
        y.trust(4, 9);
        s.due("no more by the trust 9", y.trunk(0, 3), 9 + 18 + 45 + 54);
        y.trust(4, 0);
        s.due("9 more by the trust 0", y.trunk(0, 3), 9 + 18 + 45 + 54 + 9);
        y.set(DoubtfulTrunks.TARE, 8);
        s.due("the whole difference, not what is above TARE", y.trunk(0, 3), 9 + 18 + 45 + 54 + 9);
        y.mend(0, 0, 5, 8);
        s.due("not of a kind in which they don't disagree", y.trunk(0, 3), 9 + 18 + 45 + 9);
        DoubtfulTrunks z = new DoubtfulTrunks();
        z.trust(0, 9);
        Check.come(z, "0:a1/");
        s.due("the least doubt", z.trunk(0, 3), 1);
        z.trust(0, 0);
        for (int kind = 0; kind < 6; kind++) {
            z.weight(kind, 9);
        }
        Check.come(z, "0:a9b9c9/d9e9f9");
        s.due("the greatest doubt", z.trunk(1, 3), 6 * 81 + 9);
    }

    // ---- desks

    private static void desks() {
        s.of("There are 3 desks, 0 to 2, of rising rank, each with 0 to 3 hands (1 at first), and a queue of trunks.");
        s.range("the hands of the desk", Sentences.BUSY, 0, 2, (x, desk) -> x.hands(desk, 2), NO_SUCH);
        s.range("what there is about the desk", Sentences.BUSY, 0, 2, (x, desk) -> x.desk(desk, 1), NO_SUCH);
        for (int desk = 0; desk < 3; desk++) {
            int of = desk;
            s.range("the desk " + desk + "'s hands", Sentences.BUSY, 0, 3, (x, n) -> x.hands(of, n), BAD_VALUE);
            s.due("at first, the hands of " + desk, new DoubtfulTrunks().desk(desk, 0), 1);
            s.due("at first, the queue of " + desk, new DoubtfulTrunks().desk(desk, 1), 0);
        }

        s.of("A trunk that comes stands at the end of the queue of the desk 0.");
        DoubtfulTrunks x = new DoubtfulTrunks();
        for (int trunk = 0; trunk < 16; trunk++) {
            Check.come(x, "0:f9/");
            s.due("the desk of the trunk " + trunk, x.trunk(trunk, 1), 0);
            s.due("the place of the trunk " + trunk, x.trunk(trunk, 2), trunk);
        }
        x.turn(3);
        Check.come(x, "0:/");
        s.due("the desk, when others are handed on", x.trunk(16, 1), 0);
        s.due("the place, behind those that are left", x.trunk(16, 2), 13);

        s.of("There are at most 16 trunks in all queues");
        DoubtfulTrunks y = trusting(0);
        y.hands(0, 3);
        for (int trunk = 0; trunk < 15; trunk++) {
            Check.come(y, "0:a1/");
        }
        y.hands(2, 0);
        y.turn(3);
        s.due("at the desk 0", y.desk(0, 1), 6);
        s.due("at the desk 1", y.desk(1, 1), 7);
        s.due("at the desk 2", y.desk(2, 1), 2);
        s.due("the sixteenth", Check.come(y, "0:a1/"), 15);
        s.due("the seventeenth", Check.come(y, "0:a1/"), TOO_MANY);
        y.turn(50);
        s.due("all stand at the desk 2", y.desk(2, 1), 16);
        s.due("the seventeenth still", y.read(), TOO_MANY);
        y.sendBack(15);
        s.due("the seventeenth, when one was sent back", y.read(), 16);
        Check.put(y, "0:/");
        s.due("one more", y.read(), TOO_MANY);
        y.hands(2, 1);
        s.due("one is opened", y.turn(1), 1);
        s.due("one more, when one passed", y.read(), 17);

        s.of("they have numbers from 0 in the order in which they came, which they keep; 64 can come at most");
        DoubtfulTrunks z = new DoubtfulTrunks();
        for (int trunk = 0; trunk < 64; trunk++) {
            z.put(Check.signs(trunk % 5 + ":/"));
            s.due("the number of the next", z.read(), trunk);
            if (trunk % 2 == 0) {
                z.sendBack(trunk);
            } else {
                z.turn(1);
            }
        }
        s.due("no queue holds one", z.count(8), 0);
        z.put(Check.signs("0:/"));
        s.due("the 65th", z.read(), TOO_MANY);
        for (int trunk = 0; trunk < 64; trunk++) {
            s.due("the country of " + trunk, z.trunk(trunk, 0), trunk % 5);
        }
        s.due("there is no trunk 64", z.trunk(64, 0), NO_SUCH);
        z.undo();
        z.undo();
        s.due("the 64th did not come", z.count(7), 63);
        s.due("another one is the 64th", z.read(), 63);
    }

    // ---- a turn

    private static void turnOrder() {
        s.of("In a turn the desks act, from the desk 2 down to the desk 0.");
        DoubtfulTrunks x = trusting(0);
        for (int desk = 0; desk < 3; desk++) {
            x.hands(desk, 3);
        }
        Check.come(x, "0:a1/");
        s.due("the first turn", x.turn(1), 0);
        s.due("brings it to the desk 1 and no farther", x.trunk(0, 1), 1);
        s.due("the second turn", x.turn(1), 0);
        s.due("brings it to the desk 2 and no farther", x.trunk(0, 1), 2);
        s.due("the third turn opens it", x.turn(1), 1);
        DoubtfulTrunks order = trusting(0);
        order.hands(2, 0);
        Check.come(order, "0:a1/");
        Check.come(order, "0:a2/");
        order.turn(2);
        s.due("the desk 1 handed on ahead of the desk 0", order.desk(1, 1), 1);
        s.due("so the second stands first there", order.trunk(1, 2), 0);

        s.of("Each hand of a desk, one after the other, takes the first trunk of its queue, if there is one,"
                + " and looks at its papers as they are then:");
        for (int desk = 0; desk < 3; desk++) {
            for (int hands = 0; hands <= 3; hands++) {
                for (int trunks = 0; trunks <= 4; trunks++) {
                    DoubtfulTrunks y = queuedAt(desk, trunks, hands);
                    y.set(DoubtfulTrunks.OPENS, 4);
                    y.turn(1);
                    String at = "the desk " + desk + ", " + hands + " hands, " + trunks + " trunks: ";
                    int taken = Math.min(hands, trunks);
                    s.due(at + "looks", y.desk(desk, 3), taken);
                    s.due(at + "trunks that are left", y.desk(desk, 1), trunks - taken);
                    if (trunks > 0) {
                        s.due(at + "the last", y.trunk(trunks - 1, 1) == desk ? 1 : 0, taken < trunks ? 1 : 0);
                    }
                }
            }
            DoubtfulTrunks mended = queuedAt(desk, 1, 1);
            mended.mend(0, 0, 0, 0);
            s.due("papers mended at the desk " + desk, mended.turn(1), 1);
            s.due("alike as they are then", mended.trunk(0, 7), 1);
        }
    }

    private static void turnPassing() {
        s.of("If they are alike, the trunk passes (it goes away).");
        for (int desk = 0; desk < 3; desk++) {
            DoubtfulTrunks x = queuedAt(desk, 3, 3);
            for (int trunk = 0; trunk < 3; trunk++) {
                x.mend(trunk, 0, 0, 0);
            }
            s.due("at the desk " + desk, x.turn(1), 3);
            s.due("the queue of the desk " + desk, x.desk(desk, 1), 0);
            s.due("none was opened", x.count(10), 0);
            s.due("nothing is taken", x.count(15), 0);
            s.due("it stands nowhere", x.trunk(0, 1), NONE);
        }

        s.of("Otherwise, if its doubt is at most SMALL times the rank of the desk and 1, together"
                + " (so SMALL at the desk 0, 2 * SMALL at the desk 1), FEE is taken, and the trunk passes;");
        for (int small : new int[] {1, 3, 4}) {
            for (int rank = 0; rank < 2; rank++) {
                settledAt(rank, small, small * (rank + 1) - 1);
                settledAt(rank, small, small * (rank + 1));
                settledAt(rank, small, small * (rank + 1) + 1);
            }
        }

        s.of("the desk 2 does not do so");
        DoubtfulTrunks x = queuedAt(2, 1, 1);
        x.set(DoubtfulTrunks.SMALL, 200);
        s.due("the least doubt, the greatest SMALL", x.turn(1), 1);
        s.due("it was opened", x.trunk(0, 7), 2);
        s.due("no fee", x.count(12), 0);

        s.of("Otherwise it is handed on: to the end of the queue of the next higher desk;");
        DoubtfulTrunks y = queuedAt(1, 2, 0);
        y.hands(0, 3);
        Check.come(y, "0:a1/");
        Check.come(y, "0:a1/");
        s.due("none passes", y.turn(1), 0);
        s.due("the first that is handed on stands behind all", y.trunk(2, 2), 2);
        s.due("the second behind it", y.trunk(3, 2), 3);
        s.due("one desk higher", y.trunk(3, 1), 1);
        s.due("the first there stays the first", y.trunk(0, 2), 0);
        y.hands(1, 1);
        y.hands(2, 0);
        y.turn(4);
        s.due("from the desk 1 to the desk 2", y.desk(2, 1), 4);
        s.due("the last there", y.trunk(3, 2), 3);
    }

    /** Whether a doubt, 9 at most, is settled at the desk 0 or 1 with this SMALL. */
    private static void settledAt(int desk, int small, int doubt) {
        if (doubt < 1) {
            return;
        }
        boolean due = doubt <= small * (desk + 1);
        DoubtfulTrunks x = queuedAt(desk, 1, 1);
        x.mend(0, 0, 0, doubt);
        x.set(DoubtfulTrunks.SMALL, small);
        String call = "SMALL " + small + ", the doubt " + doubt + " at the desk " + desk;
        s.due(call + ": passes", x.turn(1), due ? 1 : 0);
        s.due(call + ": FEE", x.trunk(0, 5), due ? 5 : 0);
        s.due(call + ": passed unopened", x.trunk(0, 7), due ? 1 : 0);
        s.due(call + ": is handed on", x.trunk(0, 1), due ? NONE : desk + 1);
    }

    private static void turnOpening() {
        s.of("at the desk 2 it is opened, if fewer than OPENS trunks were opened in this turn:");
        for (int opens = 1; opens <= 4; opens++) {
            DoubtfulTrunks x = queuedAt(2, 7, 3);
            x.set(DoubtfulTrunks.OPENS, opens);
            int each = Math.min(3, opens);
            s.due("OPENS " + opens + ", a turn", x.turn(1), each);
            s.due("OPENS " + opens + ", opened", x.count(10), each);
            s.due("OPENS " + opens + ", the next turn opens as many", x.turn(1), each);
        }
        DoubtfulTrunks alike = queuedAt(2, 3, 3);
        alike.mend(0, 0, 0, 0);
        alike.mend(1, 0, 0, 0);
        s.due("those that passed unopened don't count", alike.turn(1), 3);
        s.due("one was opened", alike.count(10), 1);
        DoubtfulTrunks one = queuedAt(2, 3, 1);
        one.set(DoubtfulTrunks.OPENS, 4);
        s.due("one hand opens one alone", one.turn(1), 1);

        s.of("FINE is taken for each kind of which it has more pieces than either of its papers declares");
        fined("0:a3b3/=a3b3", 0);
        fined("0:a3b3/=a4b3", 1);
        fined("0:/a3b3=a3b4", 2);
        fined("0:a2/a5=a4", 0);
        fined("0:a5/a2=a5", 0);
        fined("0:a2/a5=a6", 1);
        fined("0:a5/a2=a6", 1);
        fined("0:a1/=a2b1c1d1e1f1", 63);
        fined("0:a1/=", 0);
        fined("0:e8/=f1", 32);
        fined("0:f8/f9=f9", 0);

        s.of("(it is fined for that kind, also if FINE is 0), and the trunk passes");
        DoubtfulTrunks free = queuedAt(0, 0, 1);
        free.set(DoubtfulTrunks.FINE, 0);
        Check.come(free, "0:a1/=a2f1");
        s.due("it passes", free.turn(3), 1);
        s.due("it is fined for both kinds", free.trunk(0, 8), 33);
        s.due("for nothing", free.trunk(0, 5), 0);
        s.due("it is not one that was not fined", free.count(16), 0);
        s.due("it stands nowhere", free.trunk(0, 1), NONE);

        s.of("If so many were opened already, it goes back to the front of the queue,"
                + " and the desk does no more in this turn.");
        DoubtfulTrunks x = queuedAt(2, 4, 3);
        x.mend(2, 0, 0, 0);
        s.due("the first is opened", x.turn(1), 1);
        s.due("the second went back to the front", x.trunk(1, 2), 0);
        s.due("the third, though alike, was not taken", x.trunk(2, 2), 1);
        s.due("the last stays the last", x.trunk(3, 2), 2);
        s.due("two were looked at", x.desk(2, 3), 2);
        s.due("in the next turn the second is opened, the third passes", x.turn(1), 2);
        s.due("five were looked at", x.desk(2, 3), 5);
        DoubtfulTrunks others = queuedAt(2, 2, 3);
        Check.come(others, "0:/");
        s.due("the other desks go on", others.turn(1), 2);
    }

    /** A trunk of a doubt, and for which kinds it is fined when it is opened. */
    private static void fined(String text, int kinds) {
        DoubtfulTrunks x = queuedAt(0, 0, 1);
        Check.come(x, text);
        x.turn(3);
        s.due(text + " is opened", x.trunk(0, 7), 2);
        s.due(text + " is fined for", x.trunk(0, 8), kinds);
        s.due(text + " pays", x.trunk(0, 5), 20 * Integer.bitCount(kinds));
        s.due("fines for " + text, x.count(13), 20 * Integer.bitCount(kinds));
    }

    private static void turnDelay() {
        s.of("Then for each trunk that stands in a queue (also one that was handed on in this turn), DELAY is taken.");
        DoubtfulTrunks x = queuedAt(2, 3, 3);
        x.set(DoubtfulTrunks.DELAY, 7);
        Check.come(x, "0:a1/");
        Check.come(x, "0:/");
        Check.come(x, "0:/");
        Check.come(x, "0:/");
        x.sendBack(6);
        x.hands(0, 2);
        s.due("one is opened, one alike", x.turn(1), 2);
        int[] accounts = {0, 7, 7, 7, 0, 7, 0};
        String[] what = {"opened", "went back", "not taken", "handed on", "passed", "not looked at", "sent back"};
        for (int trunk = 0; trunk < accounts.length; trunk++) {
            s.due("the one that was " + what[trunk], x.trunk(trunk, 5), accounts[trunk]);
        }
        DoubtfulTrunks full = new DoubtfulTrunks();
        full.hands(0, 0);
        Sentences.fullQueues(full, "");
        full.turn(99);
        s.due("16 trunks, 99 turns", full.count(14), 16 * 99);
        s.due("the first", full.trunk(0, 5), 99);
        s.due("the last", full.trunk(15, 5), 99);

        s.of("The count of turns becomes 1 more.");
        DoubtfulTrunks y = new DoubtfulTrunks();
        y.turn(1);
        s.due("without trunks, too", y.count(6), 1);
        y.turn(99);
        s.due("once for each turn", y.count(6), 100);

        s.of("What is taken for a trunk is its account.");
        DoubtfulTrunks z = trusting(2);
        z.set(DoubtfulTrunks.DELAY, 3);
        Check.come(z, "0:a5/=b1c1");
        Check.come(z, "0:a2/");
        s.due("nothing yet", z.trunk(0, 5), 0);
        z.turn(1);
        s.due("a delay at the desk 1", z.trunk(0, 5), 3);
        s.due("a delay at the desk 0", z.trunk(1, 5), 3);
        z.turn(1);
        s.due("another delay", z.trunk(0, 5), 6);
        s.due("a delay and a fee", z.trunk(1, 5), 3 + 5);
        z.turn(1);
        s.due("two delays and two fines", z.trunk(0, 5), 6 + 40);
        z.turn(9);
        s.due("no more, once it is gone", z.trunk(0, 5), 6 + 40);
        s.due("all accounts", z.count(15), 6 + 40 + 3 + 5);
    }
}
