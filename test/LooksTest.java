import java.util.List;

/** Promises 10 to 14: what there is. */
public final class LooksTest {
    private static final int[] NOWHERE = {Integer.MIN_VALUE, -6, -1, 64, 1000, Integer.MAX_VALUE};

    private static final Check check = new Check("Looks");

    public static void main(String[] args) {
        trunk();
        trunkRefused();
        doubts();
        pieces();
        alike();
        desk();
        count();
        nothingChanges();
        check.finish();
    }

    private static void rows(String promise, DoubtfulTrunks x, int trunk, int... due) {
        for (int what = 0; what < due.length; what++) {
            check.due(promise + ": trunk(" + trunk + ", " + what + ")", x.trunk(trunk, what), due[what]);
        }
    }

    private static void trunk() {
        DoubtfulTrunks x = new DoubtfulTrunks();
        x.turn(7);
        Check.come(x, "3:a9c2/a1f1=a9b9");
        Check.come(x, "1:/");
        Check.come(x, "0:b2/");
        Check.come(x, "4:/e1");
        rows("10", x, 0, 3, 0, 0, 8 + 6 + 6 + 4, 1 + 4 + 32, 0, 7, 0, 0, 0);
        rows("10", x, 1, 1, 0, 1, 0, 0, 0, 7, 0, 0, 0);
        x.turn(1);
        rows("10", x, 0, 3, 1, 0, 24, 37, 1, 7, 0, 0, 1);
        rows("10", x, 1, 1, 0, 0, 0, 0, 1, 7, 0, 0, 0);
        x.turn(2);
        rows("10", x, 0, 3, -6, -6, 24, 37, 2 + 20, 7, 2, 2, 2);
        rows("10", x, 1, 1, -6, -6, 0, 0, 1, 7, 1, 0, 0);
        rows("10", x, 2, 0, -6, -6, 8, 2, 2 + 5, 7, 1, 0, 0);
        x.sendBack(3);
        rows("10", x, 3, 4, -6, -6, 9, 16, 3, 7, 3, 0, 0);
        x.set(DoubtfulTrunks.TARE, 1);
        x.weight(0, 2);
        rows("10: of a trunk that is gone, too", x, 0, 3, -6, -6, 16 + 6 + 4, 1 + 4, 22, 7, 2, 2, 2);
    }

    private static void trunkRefused() {
        DoubtfulTrunks x = new DoubtfulTrunks();
        Check.come(x, "0:/");
        for (int trunk : NOWHERE) {
            check.due("10: trunk(" + trunk + ", 0)", x.trunk(trunk, 0), -1);
            check.due("10: NO_SUCH ahead of BAD_VALUE", x.trunk(trunk, 10), -1);
            check.due("10: trunk(0, " + trunk + ")", x.trunk(0, trunk), -2);
        }
        check.due("10: trunk(1, 0)", x.trunk(1, 0), -1);
        check.due("10: trunk(0, 10)", x.trunk(0, 10), -2);
        x.undo();
        check.due("10: undone, it did not come", x.trunk(0, 0), -1);
    }

    private static void doubts() {
        DoubtfulTrunks x = new DoubtfulTrunks();
        Check.come(x, "0:a3b3c9/a1b6c1");
        check.due("10: all kinds", x.trunk(0, 3), 2 + 6 + 24 + 4);
        x.set(DoubtfulTrunks.TARE, 2);
        check.due("10: a difference of TARE is none", x.trunk(0, 4), 2 + 4);
        check.due("10: the whole difference counts", x.trunk(0, 3), 6 + 24 + 4);
        x.set(DoubtfulTrunks.TARE, 3);
        check.due("10: one kind", x.trunk(0, 3), 24 + 4);
        x.set(DoubtfulTrunks.TARE, 8);
        check.due("10: alike, the trust does not count", x.trunk(0, 3), 0);
        x.trust(0, 0);
        check.due("10: alike without trust", x.trunk(0, 3), 0);
        x.set(DoubtfulTrunks.TARE, 7);
        check.due("10: without trust", x.trunk(0, 3), 24 + 9);
        for (int kind = 0; kind < 6; kind++) {
            x.weight(kind, 9);
        }
        x.set(DoubtfulTrunks.TARE, 0);
        Check.come(x, "0:/a9b9c9d9e9f9");
        check.due("10: the greatest doubt", x.trunk(1, 3), 495);
        check.due("10: in all kinds", x.trunk(1, 4), 63);
    }

    private static void pieces() {
        DoubtfulTrunks x = new DoubtfulTrunks();
        Check.come(x, "0:a1c3f9/b2e5=d4");
        String[] due = {"103009", "020050", "000400"};
        for (int paper = 0; paper < 3; paper++) {
            for (int kind = 0; kind < 6; kind++) {
                check.due("11: pieces(0, " + paper + ", " + kind + ")",
                        x.pieces(0, paper, kind), due[paper].charAt(kind) - '0');
            }
        }
        for (int wild : NOWHERE) {
            check.due("11: trunk " + wild, x.pieces(wild, 0, 0), -1);
            check.due("11: kind " + wild, x.pieces(0, 0, wild), -1);
            check.due("11: paper " + wild, x.pieces(0, wild, 0), -2);
            check.due("11: NO_SUCH trunk ahead of BAD_VALUE", x.pieces(wild, 3, 0), -1);
            check.due("11: NO_SUCH kind ahead of BAD_VALUE", x.pieces(0, 3, wild), -1);
        }
        check.due("11: trunk 1", x.pieces(1, 0, 0), -1);
        check.due("11: kind 6", x.pieces(0, 0, 6), -1);
        check.due("11: paper 3", x.pieces(0, 3, 0), -2);
        x.sendBack(0);
        check.due("11: of a trunk that is gone, too", x.pieces(0, 2, 3), 4);
    }

    private static void alike() {
        DoubtfulTrunks x = new DoubtfulTrunks();
        Check.come(x, "0:a3b1/b1");
        Check.come(x, "0:c2/c2=a9");
        Check.come(x, "0:a1b1c1d1e1f1/");
        int[][] due = {{0, 1, 0}, {0, 1, 1}, {0, 1, 1}, {1, 1, 1}};
        for (int tare = 0; tare <= 3; tare++) {
            x.set(DoubtfulTrunks.TARE, tare);
            for (int trunk = 0; trunk < 3; trunk++) {
                for (int way = 0; way < 2; way++) {
                    check.due("12: TARE " + tare + ", alike(" + trunk + ", " + way + ")",
                            x.alike(trunk, way), due[tare][trunk]);
                }
            }
        }
        for (int wild : NOWHERE) {
            check.due("12: alike(" + wild + ", 0)", x.alike(wild, 0), -1);
            check.due("12: NO_SUCH ahead of BAD_VALUE", x.alike(wild, 2), -1);
            check.due("12: alike(0, " + wild + ")", x.alike(0, wild), -2);
        }
        check.due("12: alike(3, 0)", x.alike(3, 0), -1);
        check.due("12: alike(0, 2)", x.alike(0, 2), -2);
        x.turn(1);
        check.due("12: of a trunk that is gone, too", x.alike(0, 0), 1);
    }

    private static void desk() {
        DoubtfulTrunks x = new DoubtfulTrunks();
        x.hands(0, 3);
        x.hands(2, 2);
        Check.come(x, "0:a9/");
        Check.come(x, "0:f9/");
        Check.come(x, "0:/");
        Check.come(x, "0:b1/");
        Check.come(x, "0:b2/");
        x.turn(1);
        int[][] due = {{3, 2, 6 + 8, 3, 1}, {1, 2, 13 + 58, 0, 0}, {2, 0, 0, 0, 0}};
        for (int desk = 0; desk < 3; desk++) {
            for (int what = 0; what <= 4; what++) {
                check.due("13: desk(" + desk + ", " + what + ")", x.desk(desk, what), due[desk][what]);
            }
        }
        for (int wild : NOWHERE) {
            check.due("13: desk(" + wild + ", 0)", x.desk(wild, 0), -1);
            check.due("13: NO_SUCH ahead of BAD_VALUE", x.desk(wild, 5), -1);
            check.due("13: desk(0, " + wild + ")", x.desk(0, wild), -2);
        }
        check.due("13: desk(3, 0)", x.desk(3, 0), -1);
        check.due("13: desk(0, 5)", x.desk(0, 5), -2);
        x.turn(2);
        check.due("13: looks at the desk 1", x.desk(1, 3), 2);
        check.due("13: passes at the desk 1", x.desk(1, 4), 1);
        check.due("13: passes at the desk 0", x.desk(0, 4), 3);
    }

    private static void count() {
        DoubtfulTrunks x = new DoubtfulTrunks();
        x.hands(0, 3);
        x.hands(1, 2);
        x.set(DoubtfulTrunks.DELAY, 2);
        x.set(DoubtfulTrunks.FEE, 7);
        Check.come(x, "0:f9/=a1");
        Check.come(x, "0:f8/");
        Check.come(x, "0:a1/");
        Check.come(x, "0:/");
        x.sendBack(3);
        x.turn(4);
        x.hands(0, 0);
        Check.come(x, "0:/");
        x.turn(1);
        Check.put(x, "0:/");
        int delays = 2 * (2 + 2 + 1) + 2;
        int[] due = {10, 7, 20, 2, 0, 1, 5, 5, 1, 1, 2, 1, 7, 20, delays, 27 + delays, 1, 3, 4};
        for (int what = 0; what <= 18; what++) {
            check.due("14: count(" + what + ")", x.count(what), due[what]);
        }
        check.due("14: count(19)", x.count(19), -2);
        for (int wild : NOWHERE) {
            check.due("14: count(" + wild + ")", x.count(wild), -2);
        }
    }

    private static void nothingChanges() {
        DoubtfulTrunks x = new DoubtfulTrunks();
        Check.come(x, "0:f9/=a1");
        Check.come(x, "0:a5/");
        x.turn(1);
        Check.put(x, "0:a");
        List<Integer> before = Check.view(x, 2);
        check.same("10 to 14: looking changes nothing", Check.view(x, 2), before);
        check.due("10 to 14: nor the history", x.undo(), 2);
    }
}
