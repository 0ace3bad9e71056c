import java.util.List;

/** Promises 15 to 20: what if. */
public final class ForecastsTest {
    private static final int[] NOWHERE = {Integer.MIN_VALUE, -1, 64, 1000, Integer.MAX_VALUE};

    private static final Check check = new Check("Forecasts");

    public static void main(String[] args) {
        untilGoneAndFate();
        stuck();
        mostDoubted();
        ifTurned();
        bestHand();
        bestHandOfHigherDesks();
        bestHandOfFullDesks();
        leastSmall();
        leastSmallByTurns();
        leastSmallAtTheEdge();
        leastSmallOfStuckTrunks();
        nothingChanges();
        check.finish();
    }

    private static void gone(DoubtfulTrunks x, int trunk, int turns, int fate) {
        check.due("15: untilGone(" + trunk + ")", x.untilGone(trunk), turns);
        check.due("16: fate(" + trunk + ")", x.fate(trunk), fate);
    }

    private static void untilGoneAndFate() {
        DoubtfulTrunks x = new DoubtfulTrunks();
        Check.come(x, "0:f9/");
        Check.come(x, "0:a1/");
        Check.come(x, "0:b8/");
        Check.come(x, "0:/");
        Check.come(x, "0:f9/");
        gone(x, 0, 3, 2);
        gone(x, 1, 2, 1);
        gone(x, 2, 4, 1);
        gone(x, 3, 4, 1);
        gone(x, 4, 7, 2);
        x.sendBack(3);
        gone(x, 3, 0, 3);
        gone(x, 4, 6, 2);
        x.turn(2);
        gone(x, 0, 1, 2);
        gone(x, 1, 0, 1);
        x.turn(1);
        gone(x, 0, 0, 2);
        for (int wild : NOWHERE) {
            check.due("15: untilGone(" + wild + ")", x.untilGone(wild), -1);
            check.due("16: fate(" + wild + ")", x.fate(wild), -1);
        }
        check.due("15: untilGone(5)", x.untilGone(5), -1);
        check.due("16: fate(5)", x.fate(5), -1);
    }

    private static void stuck() {
        DoubtfulTrunks x = new DoubtfulTrunks();
        x.hands(0, 0);
        Check.come(x, "0:/");
        gone(x, 0, -6, -6);
        x.hands(0, 1);
        x.hands(2, 0);
        Check.come(x, "0:f9/");
        gone(x, 0, 1, 1);
        gone(x, 1, -6, -6);
        x.turn(5);
        gone(x, 1, -6, -6);
        x.hands(2, 1);
        gone(x, 1, 1, 2);
    }

    private static void mostDoubted() {
        DoubtfulTrunks x = new DoubtfulTrunks();
        check.due("17: none", x.mostDoubted(), -6);
        Check.come(x, "0:/");
        Check.come(x, "0:/");
        check.due("17: alike ones, too", x.mostDoubted(), 0);
        Check.come(x, "0:b2/");
        Check.come(x, "1:/d1");
        check.due("17: of several the lowest", x.mostDoubted(), 2);
        x.trust(1, 4);
        check.due("17: the greater doubt", x.mostDoubted(), 3);
        x.sendBack(3);
        check.due("17: not one that is gone", x.mostDoubted(), 2);
        x.turn(3);
        check.due("17: none is left", x.mostDoubted(), -6);
        Check.come(x, "0:f9/");
        Check.come(x, "0:a2/");
        x.turn(1);
        check.due("17: at a higher desk, too", x.mostDoubted(), 4);
        x.turn(2);
        check.due("17: all are gone", x.mostDoubted(), -6);
    }

    private static void brought(DoubtfulTrunks x, int turns, int passed, int opened, int taken) {
        check.due("18: ifTurned(" + turns + ", 0)", x.ifTurned(turns, 0), passed);
        check.due("18: ifTurned(" + turns + ", 1)", x.ifTurned(turns, 1), opened);
        check.due("18: ifTurned(" + turns + ", 2)", x.ifTurned(turns, 2), taken);
    }

    private static void ifTurned() {
        DoubtfulTrunks x = new DoubtfulTrunks();
        brought(x, 200, 0, 0, 0);
        Check.come(x, "0:f9/=a1b1");
        Check.come(x, "0:a1/");
        Check.come(x, "0:f1/");
        brought(x, 1, 0, 0, 3);
        brought(x, 2, 1, 0, 3 + 5 + 2);
        brought(x, 3, 3, 1, 10 + 40 + 5);
        brought(x, 200, 3, 1, 55);
        x.turn(2);
        brought(x, 1, 2, 1, 45);
        x.turn(1);
        brought(x, 200, 0, 0, 0);
        x.undo();
        x.hands(2, 0);
        x.set(DoubtfulTrunks.DELAY, 20);
        brought(x, 1, 1, 0, 25);
        brought(x, 200, 1, 0, 5 + 4000);
        for (int wild : new int[] {Integer.MIN_VALUE, -1, 0, 201, Integer.MAX_VALUE}) {
            check.due("18: ifTurned(" + wild + ", 0)", x.ifTurned(wild, 0), -2);
        }
        for (int wild : new int[] {Integer.MIN_VALUE, -1, 3, Integer.MAX_VALUE}) {
            check.due("18: ifTurned(1, " + wild + ")", x.ifTurned(1, wild), -2);
        }
    }

    private static void bestHand() {
        DoubtfulTrunks x = new DoubtfulTrunks();
        check.due("19: no trunk", x.bestHand(), -6);
        for (int trunk = 0; trunk < 5; trunk++) {
            Check.come(x, "0:/");
        }
        check.due("19: all pass in 5 turns anyhow", x.bestHand(), -6);
        Check.come(x, "0:/");
        check.due("19: the sixth passes with a hand more", x.bestHand(), 0);
        x.hands(0, 2);
        check.due("19: all pass with two hands", x.bestHand(), -6);
        x.hands(0, 0);
        check.due("19: a first hand", x.bestHand(), 0);
    }

    /** Trunks that are stuck at the desk 1 or 2 for want of hands. */
    private static DoubtfulTrunks stuckAt(int desk, int trunks) {
        DoubtfulTrunks x = new DoubtfulTrunks();
        x.set(DoubtfulTrunks.SMALL, 0);
        x.hands(desk, 0);
        for (int trunk = 0; trunk < trunks; trunk++) {
            Check.come(x, "0:a1/");
        }
        x.turn(trunks + desk);
        check.due("19: they are stuck", x.desk(desk, 1), trunks);
        return x;
    }

    private static void bestHandOfHigherDesks() {
        DoubtfulTrunks x = stuckAt(1, 2);
        check.due("19: the desk 1, that they be opened", x.bestHand(), 1);
        x.set(DoubtfulTrunks.SMALL, 5);
        check.due("19: the desk 1, that they pass", x.bestHand(), 1);
        Check.come(x, "0:/");
        x.hands(0, 0);
        check.due("19: two pass rather than one", x.bestHand(), 1);
        Check.come(x, "0:/");
        check.due("19: of several the lowest", x.bestHand(), 0);
        DoubtfulTrunks y = stuckAt(2, 1);
        check.due("19: the desk 2", y.bestHand(), 2);
        DoubtfulTrunks z = stuckAt(2, 6);
        z.hands(2, 1);
        check.due("19: a second hand opens no more", z.bestHand(), -6);
        z.set(DoubtfulTrunks.OPENS, 2);
        check.due("19: a second hand opens the sixth", z.bestHand(), 2);
    }

    private static void bestHandOfFullDesks() {
        DoubtfulTrunks x = new DoubtfulTrunks();
        x.hands(0, 3);
        for (int trunk = 0; trunk < 16; trunk++) {
            Check.come(x, "0:/");
        }
        check.due("19: 15 of 16 pass, but 3 hands are all", x.bestHand(), -6);
        x.hands(0, 2);
        check.due("19: a third hand", x.bestHand(), 0);
        DoubtfulTrunks y = stuckAt(1, 7);
        y.set(DoubtfulTrunks.SMALL, 5);
        y.hands(0, 0);
        for (int trunk = 0; trunk < 5; trunk++) {
            Check.come(y, "0:/");
        }
        check.due("19: five pass with a hand at the desk 0", hand(y, 0), 5);
        check.due("19: five with one at the desk 1, not seven with two", hand(y, 1), 5);
        check.due("19: so the lowest", y.bestHand(), 0);
    }

    /** How many pass in 5 turns with a hand more, by making the turns. */
    private static int hand(DoubtfulTrunks x, int desk) {
        x.hands(desk, x.desk(desk, 0) + 1);
        int passed = x.turn(5);
        x.undo();
        x.undo();
        return passed;
    }

    /** Whether no trunk is opened with this SMALL, by making the turns. */
    private static boolean isEnough(DoubtfulTrunks x, int small) {
        int opened = x.count(10);
        x.set(DoubtfulTrunks.SMALL, small);
        x.turn(99);
        boolean enough = x.count(10) == opened;
        x.undo();
        x.undo();
        return enough;
    }

    private static void leastSmallByTurns() {
        for (int pieces = 1; pieces <= 9; pieces++) {
            DoubtfulTrunks x = new DoubtfulTrunks();
            Check.come(x, "0:f" + pieces + "/=a1");
            Check.come(x, "0:e" + pieces + "/");
            int least = x.leastSmall();
            check.holds("20: enough is " + least, isEnough(x, least));
            check.holds("20: not " + (least - 1), !isEnough(x, least - 1));
        }
    }

    private static void leastSmall() {
        DoubtfulTrunks x = new DoubtfulTrunks();
        check.due("20: no trunk", x.leastSmall(), 0);
        Check.come(x, "0:/");
        check.due("20: alike", x.leastSmall(), 0);
        Check.come(x, "0:a7/");
        check.due("20: doubt 11", x.leastSmall(), 6);
        Check.come(x, "0:a8/");
        check.due("20: doubt 12", x.leastSmall(), 6);
        Check.come(x, "0:a9/");
        check.due("20: doubt 13", x.leastSmall(), 7);
        Check.come(x, "0:a1/");
        check.due("20: the greatest doubt decides", x.leastSmall(), 7);
        x.set(DoubtfulTrunks.SMALL, 0);
        check.due("20: whatever SMALL is", x.leastSmall(), 7);
        x.turn(4);
        check.due("20: at the desk 2", x.leastSmall(), -6);
        x.hands(2, 0);
        check.due("20: nobody opens", x.leastSmall(), 0);
        check.due("20: SMALL stays", x.count(0), 0);
    }

    private static void leastSmallAtTheEdge() {
        DoubtfulTrunks x = new DoubtfulTrunks();
        for (int kind = 0; kind < 6; kind++) {
            x.weight(kind, 9);
        }
        Check.come(x, "0:a9b9c9d9e8/");
        check.due("20: doubt 400", x.trunk(0, 3), 400);
        check.due("20: the greatest SMALL", x.leastSmall(), 200);
        x.trust(0, 6);
        check.due("20: doubt 399", x.leastSmall(), 200);
        x.trust(0, 7);
        check.due("20: doubt 398", x.leastSmall(), 199);
        x.trust(0, 4);
        check.due("20: doubt 401", x.leastSmall(), -6);
        x.sendBack(0);
        check.due("20: gone ones do not count", x.leastSmall(), 0);
    }

    private static void leastSmallOfStuckTrunks() {
        DoubtfulTrunks x = new DoubtfulTrunks();
        Check.come(x, "0:f9/");
        x.hands(0, 0);
        check.due("20: stuck at the desk 0", x.leastSmall(), 0);
        x.hands(0, 1);
        x.hands(1, 0);
        check.due("20: it would be stuck at the desk 1", x.leastSmall(), 0);
        x.turn(1);
        Check.come(x, "0:e9/");
        check.due("20: it is stuck at the desk 1", x.leastSmall(), 0);
        x.hands(1, 3);
        check.due("20: doubts 58 and 49", x.leastSmall(), 29);
        x.hands(0, 0);
        x.sendBack(0);
        check.due("20: the other is stuck at the desk 0", x.leastSmall(), 0);
        x.hands(0, 1);
        check.due("20: doubt 49", x.leastSmall(), 25);
        x.set(DoubtfulTrunks.SMALL, 0);
        x.turn(2);
        x.mend(1, 0, 4, 0);
        check.due("20: alike at the desk 2", x.leastSmall(), 0);
        x.mend(1, 0, 0, 1);
        x.trust(0, 9);
        check.due("20: the least doubt", x.trunk(1, 3), 1);
        check.due("20: the least doubt at the desk 2", x.leastSmall(), -6);
    }

    private static void nothingChanges() {
        DoubtfulTrunks x = new DoubtfulTrunks();
        Check.come(x, "0:f9/=a1");
        Check.come(x, "0:a5/");
        Check.come(x, "0:/");
        x.turn(1);
        x.save(1);
        Check.put(x, "0:a");
        List<Integer> before = Check.view(x, 3);
        for (int trunk = -1; trunk <= 3; trunk++) {
            x.untilGone(trunk);
            x.fate(trunk);
        }
        x.mostDoubted();
        x.ifTurned(200, 2);
        x.ifTurned(0, 0);
        x.bestHand();
        x.leastSmall();
        check.same("15 to 20: what-ifs change nothing", Check.view(x, 3), before);
        check.due("15 to 20: nor the slots", x.restore(1), 1);
        check.due("15 to 20: nor the history", x.undo(), 3);
        check.same("15 to 20: all as before", Check.view(x, 3).subList(0, 17), before.subList(0, 17));
    }
}
