import java.util.List;

/** Promises 6 to 8: trunks that come, are mended and sent back. */
public final class TrunksTest {
    private static final Check check = new Check("Trunks");

    public static void main(String[] args) {
        read();
        readWithoutRoom();
        readSixtyFour();
        mend();
        mendRefused();
        sendBack();
        sendBackFromTheMiddle();
        check.finish();
    }

    private static void pieces(DoubtfulTrunks x, int trunk, int paper, String due) {
        for (int kind = 0; kind < 6; kind++) {
            check.due("6: pieces(" + trunk + ", " + paper + ", " + kind + ")",
                    x.pieces(trunk, paper, kind), due.charAt(kind) - '0');
        }
    }

    private static void read() {
        DoubtfulTrunks x = new DoubtfulTrunks();
        check.due("6: an empty pad", x.read(), -3);
        check.due("6: read", Check.come(x, "1:a2/b3"), 0);
        check.due("6: the pad is emptied", x.count(17), 0);
        check.due("6: read again", x.read(), -3);
        check.due("6: nothing in it", Check.come(x, "0:a7/c1="), 1);
        x.turn(1);
        check.due("6: all kinds", Check.come(x, "4:a1b2c3d4e5f6/a9f8=a9b8c7d6e5f4"), 2);
        pieces(x, 0, 0, "200000");
        pieces(x, 0, 1, "030000");
        pieces(x, 0, 2, "200000");
        pieces(x, 1, 0, "700000");
        pieces(x, 1, 1, "001000");
        pieces(x, 1, 2, "000000");
        pieces(x, 2, 0, "123456");
        pieces(x, 2, 1, "900008");
        pieces(x, 2, 2, "987654");
        check.due("6: the country", x.trunk(0, 0), 1);
        check.due("6: the country", x.trunk(2, 0), 4);
        check.due("6: the desk", x.trunk(2, 1), 0);
        check.due("6: the end of the queue", x.trunk(2, 2), 1);
        check.due("6: behind no turn", x.trunk(1, 6), 0);
        check.due("6: behind a turn", x.trunk(2, 6), 1);
        check.due("6: nothing was taken yet", x.trunk(2, 5), 0);
        check.due("6: trunks that came", x.count(7), 3);

        DoubtfulTrunks y = new DoubtfulTrunks();
        Check.put(y, "0:a1/b");
        check.due("6: too short", y.read(), -3);
        check.due("6: the pad is kept", y.count(17), 6);
        check.due("6: not recorded", y.count(18), 0);
        Check.put(y, "2");
        check.due("6: completed", y.read(), 0);
        check.due("6: recorded", y.count(18), 1);
    }

    private static void readWithoutRoom() {
        DoubtfulTrunks x = new DoubtfulTrunks();
        for (int trunk = 0; trunk < 16; trunk++) {
            check.due("6: one of 16", Check.come(x, "0:a1/"), trunk);
        }
        check.due("6: the seventeenth", Check.come(x, "0:a1/"), -4);
        check.due("6: its text is kept", x.count(17), 5);
        check.due("6: it did not come", x.count(7), 16);
        x.wipe();
        check.due("6: BAD_TEXT ahead of TOO_MANY", x.read(), -3);
        x.set(DoubtfulTrunks.SMALL, 0);
        x.turn(1);
        check.due("6: handed on, it still is in a queue", Check.come(x, "0:/"), -4);
        x.sendBack(3);
        check.due("6: there is room again", Check.come(x, "2:/"), 16);
        check.due("6: numbers are kept", x.trunk(16, 0), 2);
        check.due("6: the end of the queue", x.trunk(16, 2), 14);
    }

    private static void readSixtyFour() {
        DoubtfulTrunks x = new DoubtfulTrunks();
        for (int trunk = 0; trunk < 64; trunk++) {
            x.put(Check.signs("0:/"));
            check.due("6: one of 64", x.read(), trunk);
            x.sendBack(trunk);
        }
        x.put(Check.signs("0:/"));
        check.due("6: the 65th", x.read(), -4);
        check.due("6: 64 came", x.count(7), 64);
        check.due("6: the pad is kept", x.count(17), 3);
        check.due("6: the last one", x.trunk(63, 7), 3);
        check.due("6: none behind it", x.trunk(64, 7), -1);
        check.due("6: sent back", x.count(11), 64);
        check.due("6: not fined", x.count(16), 0);
        check.due("6: none in a queue", x.mostDoubted(), -6);
        x.undo();
        x.undo();
        check.due("6: 63 came", x.count(7), 63);
        check.due("6: one more has room", x.read(), 63);
    }

    private static void mend() {
        DoubtfulTrunks x = new DoubtfulTrunks();
        Check.come(x, "1:/");
        check.due("7: mend(0, 0, 0, 9)", x.mend(0, 0, 0, 9), 9 + 4);
        check.due("7: the upper paper", x.pieces(0, 0, 0), 9);
        check.due("7: not the lower one", x.pieces(0, 1, 0), 0);
        check.due("7: not the truth", x.pieces(0, 2, 0), 0);
        check.due("7: another kind", x.mend(0, 1, 5, 2), 9 + 12 + 4);
        check.due("7: the lower paper", x.pieces(0, 1, 5), 2);
        check.due("7: back to 0", x.mend(0, 0, 0, 0), 12 + 4);
        check.due("7: alike again", x.mend(0, 0, 5, 2), 0);
        check.due("7: mended to what it is", x.mend(0, 0, 5, 2), 0);
        x.turn(1);
        check.due("7: it passed as its papers were then", x.trunk(0, 7), 1);
        check.due("7: and nothing was taken", x.trunk(0, 5), 0);
    }

    private static void mendRefused() {
        DoubtfulTrunks x = new DoubtfulTrunks();
        Check.come(x, "1:a1/");
        Check.come(x, "1:/");
        x.turn(1);
        List<Integer> before = Check.view(x, 2);
        check.due("7: no such trunk", x.mend(2, 0, 0, 0), -1);
        check.due("7: a trunk that is gone", x.mend(0, 0, 0, 0), -1);
        check.due("7: trunk -1", x.mend(-1, 0, 0, 0), -1);
        check.due("7: trunk 64", x.mend(64, 0, 0, 0), -1);
        check.due("7: the least trunk", x.mend(Integer.MIN_VALUE, 0, 0, 0), -1);
        check.due("7: the greatest trunk", x.mend(Integer.MAX_VALUE, 0, 0, 0), -1);
        check.due("7: kind 6", x.mend(1, 0, 6, 0), -1);
        check.due("7: kind -1", x.mend(1, 0, -1, 0), -1);
        check.due("7: a far kind", x.mend(1, 0, Integer.MAX_VALUE, 0), -1);
        check.due("7: NO_SUCH kind ahead of BAD_VALUE", x.mend(1, 2, 6, 10), -1);
        check.due("7: NO_SUCH trunk ahead of BAD_VALUE", x.mend(2, 2, 0, 10), -1);
        check.due("7: paper 2", x.mend(1, 2, 0, 0), -2);
        check.due("7: paper -1", x.mend(1, -1, 0, 0), -2);
        check.due("7: a far paper", x.mend(1, Integer.MIN_VALUE, 0, 0), -2);
        check.due("7: pieces 10", x.mend(1, 0, 0, 10), -2);
        check.due("7: pieces -1", x.mend(1, 1, 0, -1), -2);
        check.same("7: errors change nothing", Check.view(x, 2), before);
    }

    private static void sendBack() {
        DoubtfulTrunks x = new DoubtfulTrunks();
        x.hands(0, 0);
        Check.come(x, "1:a9/");
        x.turn(3);
        check.due("8: no such trunk", x.sendBack(1), -1);
        check.due("8: trunk -1", x.sendBack(-1), -1);
        check.due("8: a far trunk", x.sendBack(Integer.MAX_VALUE), -1);
        check.due("8: errors are not recorded", x.count(18), 3);
        check.due("8: its account", x.sendBack(0), 3);
        check.due("8: recorded", x.count(18), 4);
        check.due("8: once only", x.sendBack(0), -1);
        x.turn(5);
        check.due("8: nothing more is taken", x.trunk(0, 5), 3);
        check.due("8: nothing for delay", x.count(14), 3);
        check.due("8: it was sent back", x.trunk(0, 7), 3);
        check.due("8: it stands nowhere", x.trunk(0, 1), -6);
        check.due("8: it has no place", x.trunk(0, 2), -6);
        check.due("8: sent back so far", x.count(11), 1);
        check.due("8: none passed", x.count(9), 0);
        check.due("8: no desk let it pass", x.desk(0, 4), 0);
        check.due("8: none in queues", x.count(8), 0);
    }

    private static void sendBackFromTheMiddle() {
        DoubtfulTrunks x = new DoubtfulTrunks();
        for (int trunk = 0; trunk < 4; trunk++) {
            Check.come(x, "0:a9/");
        }
        x.set(DoubtfulTrunks.SMALL, 0);
        x.turn(1);
        check.due("8: from the desk 1", x.sendBack(0), 1);
        check.due("8: the desk 1 is empty", x.desk(1, 1), 0);
        check.due("8: from the middle", x.sendBack(2), 1);
        check.due("8: the first stays", x.trunk(1, 2), 0);
        check.due("8: the last moves up", x.trunk(3, 2), 1);
        check.due("8: two are left", x.count(8), 2);
        x.turn(1);
        check.due("8: the first is next", x.trunk(1, 1), 1);
        check.due("8: then the last", x.trunk(3, 2), 0);
    }
}
