import java.util.List;

/** Promise 9, and what the document tells of a turn. */
public final class TurnsTest {
    private static final Check check = new Check("Turns");

    public static void main(String[] args) {
        refused();
        manyTurns();
        alikePass();
        smallDoubts();
        noFeeAtTheTop();
        handedOnInOneTurn();
        openings();
        alikeBehindAnOpening();
        backToTheFront();
        fines();
        delays();
        noHands();
        settingsAsTheyAreThen();
        check.finish();
    }

    private static void refused() {
        DoubtfulTrunks x = new DoubtfulTrunks();
        Check.come(x, "0:a1/");
        List<Integer> before = Check.view(x, 1);
        for (int turns : new int[] {0, -1, 100, Integer.MIN_VALUE, Integer.MAX_VALUE}) {
            check.due("9: turn(" + turns + ")", x.turn(turns), -2);
        }
        check.same("9: errors change nothing", Check.view(x, 1), before);
    }

    private static void manyTurns() {
        DoubtfulTrunks x = new DoubtfulTrunks();
        for (int call = 0; call < 100; call++) {
            check.due("9: turn(99)", x.turn(99), 0);
        }
        check.due("9: turns", x.count(6), 9900);
        check.due("9: turn(98)", x.turn(98), 0);
        check.due("9: above 9999", x.turn(2), -4);
        check.due("9: BAD_VALUE ahead of TOO_MANY", x.turn(100), -2);
        check.due("9: unchanged", x.count(6), 9998);
        check.due("9: to 9999", x.turn(1), 0);
        check.due("9: one more", x.turn(1), -4);
        check.due("9: turns", x.count(6), 9999);
        Check.come(x, "0:/");
        check.due("9: what-ifs know no last turn", x.untilGone(0), 1);
        check.due("9: what-ifs know no last turn", x.ifTurned(200, 0), 1);
        x.undo();
        x.undo();
        check.due("9: undone, there is room for it", x.turn(1), 0);
    }

    private static void alikePass() {
        DoubtfulTrunks x = new DoubtfulTrunks();
        Check.come(x, "0:a3b1/a3b1=f9");
        Check.come(x, "0:/");
        Check.come(x, "0:d9/d9");
        check.due("9: one hand, one trunk", x.turn(1), 1);
        check.due("9: the first one", x.trunk(0, 7), 1);
        check.due("9: unopened and free", x.trunk(0, 5), 0);
        check.due("9: never fined", x.trunk(0, 8), 0);
        x.hands(0, 2);
        check.due("9: two hands, two trunks", x.turn(1), 2);
        check.due("9: looks", x.desk(0, 3), 3);
        check.due("9: passes", x.desk(0, 4), 3);
        check.due("9: turns", x.count(6), 2);
        check.due("9: none is left", x.turn(99), 0);
        check.due("9: no looks at nothing", x.desk(0, 3), 3);
        check.due("9: turns", x.count(6), 101);
    }

    /** Doubts are the pieces told here and 4 more, as the trust is 5. */
    private static void smallDoubts() {
        DoubtfulTrunks x = new DoubtfulTrunks();
        x.set(DoubtfulTrunks.DELAY, 0);
        x.hands(0, 3);
        x.hands(1, 3);
        Check.come(x, "0:a6/");
        Check.come(x, "0:a7/");
        check.due("9: doubt 10", x.trunk(0, 3), 10);
        check.due("9: doubt 11", x.trunk(1, 3), 11);
        check.due("9: SMALL passes at the desk 0", x.turn(1), 1);
        check.due("9: for FEE", x.trunk(0, 5), 5);
        check.due("9: unopened", x.trunk(0, 7), 1);
        check.due("9: above SMALL it is handed on", x.trunk(1, 1), 1);
        check.due("9: once", x.trunk(1, 9), 1);
        Check.come(x, "0:b8/");
        Check.come(x, "0:/a1b8");
        check.due("9: doubt 20", x.trunk(2, 3), 20);
        check.due("9: doubt 21", x.trunk(3, 3), 21);
        check.due("9: the desk 1 takes 2 * SMALL", x.turn(1), 1);
        check.due("9: for FEE", x.trunk(1, 5), 5);
        check.due("9: both are handed on", x.desk(1, 1), 2);
        check.due("9: 2 * SMALL passes at the desk 1", x.turn(1), 1);
        check.due("9: for FEE", x.trunk(2, 5), 5);
        check.due("9: above it is handed on", x.trunk(3, 1), 2);
        check.due("9: twice", x.trunk(3, 9), 2);
        check.due("9: it is opened", x.turn(1), 1);
        check.due("9: without a fee", x.trunk(3, 5), 0);
        check.due("9: opened", x.trunk(3, 7), 2);
        check.due("9: opening is no handing on", x.trunk(3, 9), 2);
        check.due("9: fees", x.count(12), 15);
        check.due("9: passes at the desk 0", x.desk(0, 4), 1);
        check.due("9: passes at the desk 1", x.desk(1, 4), 2);
        check.due("9: passes at the desk 2", x.desk(2, 4), 1);
        check.due("9: looks at the desk 0", x.desk(0, 3), 4);
        check.due("9: looks at the desk 1", x.desk(1, 3), 3);
        check.due("9: looks at the desk 2", x.desk(2, 3), 1);
    }

    private static void noFeeAtTheTop() {
        DoubtfulTrunks x = new DoubtfulTrunks();
        x.set(DoubtfulTrunks.SMALL, 0);
        Check.come(x, "0:a1/");
        x.turn(2);
        x.set(DoubtfulTrunks.SMALL, 200);
        check.due("9: it is at the desk 2", x.trunk(0, 1), 2);
        check.due("9: it passes", x.turn(1), 1);
        check.due("9: but opened", x.trunk(0, 7), 2);
        check.due("9: without a fee", x.count(12), 0);
    }

    private static void handedOnInOneTurn() {
        DoubtfulTrunks x = new DoubtfulTrunks();
        x.set(DoubtfulTrunks.SMALL, 0);
        x.hands(0, 2);
        for (int trunk = 0; trunk < 3; trunk++) {
            Check.come(x, "0:a1/");
        }
        check.due("9: none passes", x.turn(1), 0);
        check.due("9: the first is handed on", x.trunk(0, 1), 1);
        check.due("9: the second behind it", x.trunk(1, 2), 1);
        check.due("9: the third waits", x.trunk(2, 1), 0);
        x.turn(1);
        check.due("9: the higher desk acted first", x.trunk(0, 1), 2);
        check.due("9: the second is the first now", x.trunk(1, 2), 0);
        check.due("9: the third comes behind it", x.trunk(2, 2), 1);
        check.due("9: gone behind the third turn", x.turn(1), 1);
        check.due("9: opened", x.trunk(0, 7), 2);
    }

    /** Five trunks stand at the desk 2, which has 3 hands, and may open OPENS of them in a turn. */
    private static DoubtfulTrunks fiveAtTheTop() {
        DoubtfulTrunks x = new DoubtfulTrunks();
        x.set(DoubtfulTrunks.SMALL, 0);
        x.set(DoubtfulTrunks.DELAY, 0);
        for (int desk = 0; desk < 3; desk++) {
            x.hands(desk, 3);
        }
        x.hands(2, 0);
        for (int trunk = 0; trunk < 5; trunk++) {
            Check.come(x, "0:a1/");
        }
        x.turn(3);
        x.hands(2, 3);
        return x;
    }

    private static void openings() {
        int[] opened = {1, 2, 3, 3};
        int[] looks = {2, 3, 3, 3};
        for (int opens = 1; opens <= 4; opens++) {
            DoubtfulTrunks x = fiveAtTheTop();
            check.due("9: all at the desk 2", x.desk(2, 1), 5);
            x.set(DoubtfulTrunks.OPENS, opens);
            check.due("9: OPENS " + opens, x.turn(1), opened[opens - 1]);
            check.due("9: opened", x.count(10), opened[opens - 1]);
            check.due("9: looks, also at one that went back", x.desk(2, 3), looks[opens - 1]);
            check.due("9: passes", x.desk(2, 4), opened[opens - 1]);
            check.due("9: who is at the front", x.trunk(opened[opens - 1], 2), 0);
            check.due("9: the next turn opens as many", x.turn(1), Math.min(opened[opens - 1], 5 - opened[opens - 1]));
        }
    }

    private static void alikeBehindAnOpening() {
        DoubtfulTrunks x = fiveAtTheTop();
        x.mend(1, 0, 0, 0);
        check.due("9: one opened, one alike", x.turn(1), 2);
        check.due("9: opened", x.trunk(0, 7), 2);
        check.due("9: it passed unopened", x.trunk(1, 7), 1);
        check.due("9: the third went back", x.trunk(2, 2), 0);
        check.due("9: looks", x.desk(2, 3), 3);
        check.due("9: passes, opened or not", x.desk(2, 4), 2);
        check.due("9: not handed on again", x.trunk(2, 9), 2);
    }

    private static void backToTheFront() {
        DoubtfulTrunks x = fiveAtTheTop();
        x.mend(2, 0, 0, 0);
        check.due("9: the desk does no more", x.turn(1), 1);
        check.due("9: though the next is alike", x.trunk(2, 7), 0);
        check.due("9: and stands second", x.trunk(2, 2), 1);
        check.due("9: the order stays", x.trunk(1, 2), 0);
        check.due("9: looks", x.desk(2, 3), 2);
    }

    private static DoubtfulTrunks openedWith(int fine, String text) {
        DoubtfulTrunks x = new DoubtfulTrunks();
        x.set(DoubtfulTrunks.SMALL, 0);
        x.set(DoubtfulTrunks.DELAY, 0);
        x.set(DoubtfulTrunks.FINE, fine);
        Check.come(x, text);
        check.due("9: it is opened in the third turn", x.turn(2), 0);
        check.due("9: not fined yet", x.trunk(0, 8), 0);
        check.due("9: opened", x.turn(1), 1);
        return x;
    }

    private static void fines() {
        DoubtfulTrunks x = openedWith(20, "0:a1b1d3f2/b3d1f2=a5b2c1d3e1f2");
        check.due("9: more than either paper declares", x.trunk(0, 8), 1 + 4 + 16);
        check.due("9: FINE for each", x.trunk(0, 5), 60);
        check.due("9: fines", x.count(13), 60);
        check.due("9: fined", x.count(16), 0);

        DoubtfulTrunks free = openedWith(0, "0:a1/=a2f9");
        check.due("9: fined, also if FINE is 0", free.trunk(0, 8), 1 + 32);
        check.due("9: for nothing", free.trunk(0, 5), 0);
        check.due("9: it counts as fined", free.count(16), 0);

        DoubtfulTrunks honest = openedWith(90, "0:a1c2/c3=a1c3");
        check.due("9: not fined", honest.trunk(0, 8), 0);
        check.due("9: opened and not fined", honest.count(16), 1);
        check.due("9: no fines", honest.count(13), 0);

        DoubtfulTrunks tare = openedWith(90, "0:a9b1/=b2");
        tare.set(DoubtfulTrunks.TARE, 9);
        check.due("9: by one piece", tare.trunk(0, 8), 2);
        check.due("9: once taken it stays", tare.trunk(0, 5), 90);
    }

    private static void delays() {
        DoubtfulTrunks x = new DoubtfulTrunks();
        x.set(DoubtfulTrunks.DELAY, 20);
        Check.come(x, "0:a9/");
        Check.come(x, "0:/");
        Check.come(x, "0:/");
        x.turn(1);
        check.due("9: for one that was handed on", x.trunk(0, 5), 20);
        check.due("9: for one that waits", x.trunk(1, 5), 20);
        x.turn(1);
        check.due("9: none for one that passes", x.trunk(1, 5), 20);
        check.due("9: the fee alone", x.trunk(0, 5), 25);
        check.due("9: each turn", x.trunk(2, 5), 40);
        check.due("9: taken for delay", x.count(14), 80);
        x.set(DoubtfulTrunks.DELAY, 0);
        Check.come(x, "0:/");
        x.turn(1);
        check.due("9: DELAY 0", x.trunk(3, 5), 0);
        check.due("9: all accounts", x.count(15), 85);
    }

    private static void noHands() {
        DoubtfulTrunks x = new DoubtfulTrunks();
        x.hands(0, 0);
        Check.come(x, "0:/");
        check.due("9: nobody looks", x.turn(99), 0);
        check.due("9: looks", x.desk(0, 3), 0);
        check.due("9: the delay of 99 turns", x.trunk(0, 5), 99);
        x.hands(0, 3);
        check.due("9: three hands, one trunk", x.turn(1), 1);
        check.due("9: one look", x.desk(0, 3), 1);
    }

    private static void settingsAsTheyAreThen() {
        DoubtfulTrunks x = new DoubtfulTrunks();
        Check.come(x, "0:a9/");
        x.set(DoubtfulTrunks.TARE, 9);
        check.due("9: TARE makes them alike", x.turn(1), 1);
        check.due("9: for nothing", x.trunk(0, 5), 0);
        x.set(DoubtfulTrunks.TARE, 8);
        x.set(DoubtfulTrunks.FEE, 50);
        x.trust(0, 9);
        Check.come(x, "0:a9/");
        check.due("9: doubt 9", x.turn(1), 1);
        check.due("9: the fee of now", x.trunk(1, 5), 50);
        x.weight(0, 2);
        Check.come(x, "0:a9/");
        check.due("9: doubt 18", x.turn(1), 0);
    }
}
