/** The sentences of the promises 15 to 20 that name a boundary case: what if. */
public final class SentencesOfForecastsTest {
    private static final int NO_SUCH = -1, BAD_VALUE = -2, NONE = -6;

    private static final Sentences s = new Sentences("SentencesOfForecasts");

    public static void main(String[] args) {
        nothingChanges();
        asTheTurnsBring();
        untilGone();
        fate();
        mostDoubted();
        ifTurned();
        ifTurnedFar();
        bestHand();
        bestHandReturns();
        leastSmall();
        leastSmallReturns();
        s.finish();
    }

    private static void nothingChanges() {
        s.of("the interface says: ---- what if; nothing changes.");
        for (int trunk = -1; trunk <= 7; trunk++) {
            int of = trunk;
            s.changesNothing("untilGone(" + of + ")", Sentences.BUSY, x -> x.untilGone(of));
            s.changesNothing("fate(" + of + ")", Sentences.BUSY, x -> x.fate(of));
        }
        s.changesNothing("mostDoubted()", Sentences.BUSY, DoubtfulTrunks::mostDoubted);
        for (int what = 0; what < 3; what++) {
            int of = what;
            s.changesNothing("ifTurned(1, " + of + ")", Sentences.BUSY, x -> x.ifTurned(1, of));
            s.changesNothing("ifTurned(200, " + of + ")", Sentences.BUSY, x -> x.ifTurned(200, of));
        }
        s.changesNothing("bestHand()", Sentences.BUSY, DoubtfulTrunks::bestHand);
        s.changesNothing("leastSmall()", Sentences.BUSY, DoubtfulTrunks::leastSmall);
        s.isNoChange("ifTurned(9, 0)", Sentences.BUSY, x -> x.ifTurned(9, 0));
        s.isNoChange("bestHand()", Sentences.BUSY, DoubtfulTrunks::bestHand);
        s.isNoChange("leastSmall()", Sentences.BUSY, DoubtfulTrunks::leastSmall);
        s.isNoChange("untilGone(2)", Sentences.BUSY, x -> x.untilGone(2));
        s.isNoChange("fate(2)", Sentences.BUSY, x -> x.fate(2));
        s.isNoChange("mostDoubted()", Sentences.BUSY, DoubtfulTrunks::mostDoubted);
    }

    /** With SMALL 0 all are handed on, up to the desk 2, and opened there, one a turn. */
    private static void sixteenToOpen(DoubtfulTrunks x) {
        x.set(DoubtfulTrunks.SMALL, 0);
        Sentences.fullQueues(x, "");
    }

    /** All three ways to be gone, and two trunks that wait: at the desk 0, the first of which passes next. */
    private static DoubtfulTrunks goneInEachWay() {
        DoubtfulTrunks x = new DoubtfulTrunks();
        Check.come(x, "0:f9/");
        Check.come(x, "0:/");
        Check.come(x, "0:a1/");
        Check.come(x, "0:/");
        x.sendBack(2);
        x.turn(3);
        Check.come(x, "0:/");
        Check.come(x, "0:f9/");
        return x;
    }

    // ---- untilGone, fate

    private static void asTheTurnsBring() {
        s.of("Tells behind how many turns a trunk is gone, if nothing else is done.");
        goneAsTold(Sentences.BUSY);
        goneAsTold(SentencesOfForecastsTest::sixteenToOpen);
        s.of("Tells what would become of a trunk, if nothing else is done.");
        fateAsTold(Sentences.BUSY);
        fateAsTold(SentencesOfForecastsTest::sixteenToOpen);
        s.of("Tells what turns would bring.");
        broughtAsTold(Sentences.BUSY);
        broughtAsTold(SentencesOfForecastsTest::sixteenToOpen);
    }

    private static void goneAsTold(Sentences.Scene scene) {
        for (int trunk = 0; trunk < Sentences.made(scene).count(7); trunk++) {
            DoubtfulTrunks x = Sentences.made(scene);
            int told = x.untilGone(trunk);
            int turns = 0;
            while (x.trunk(trunk, 7) == 0 && turns < 99) {
                x.turn(1);
                turns++;
            }
            s.due("untilGone(" + trunk + ")", told, turns);
        }
    }

    private static void fateAsTold(Sentences.Scene scene) {
        for (int trunk = 0; trunk < Sentences.made(scene).count(7); trunk++) {
            DoubtfulTrunks x = Sentences.made(scene);
            int told = x.fate(trunk);
            x.turn(99);
            s.due("fate(" + trunk + ")", told, x.trunk(trunk, 7));
        }
    }

    private static void broughtAsTold(Sentences.Scene scene) {
        for (int turns = 1; turns <= 99; turns += turns < 20 ? 1 : 79) {
            DoubtfulTrunks x = Sentences.made(scene);
            int[] told = {x.ifTurned(turns, 0), x.ifTurned(turns, 1), x.ifTurned(turns, 2)};
            int opened = x.count(10);
            int taken = x.count(15);
            s.due("ifTurned(" + turns + ", 0)", told[0], x.turn(turns));
            s.due("ifTurned(" + turns + ", 1)", told[1], x.count(10) - opened);
            s.due("ifTurned(" + turns + ", 2)", told[2], x.count(15) - taken);
        }
    }

    private static void untilGone() {
        s.of("Returns how many, 0 if it is gone; NO_SUCH if no such trunk came; NONE if it is not within 200.");
        DoubtfulTrunks x = goneInEachWay();
        int[] due = {0, 0, 0, 0, 1, 4};
        for (int trunk = 0; trunk < due.length; trunk++) {
            s.due("untilGone(" + trunk + ")", x.untilGone(trunk), due[trunk]);
        }
        DoubtfulTrunks all = Sentences.made(SentencesOfForecastsTest::sixteenToOpen);
        for (int trunk = 0; trunk < 16; trunk++) {
            s.due("of 16 that are opened, untilGone(" + trunk + ")", all.untilGone(trunk), trunk + 3);
        }
        for (int turns = 1; turns <= 18; turns++) {
            all.turn(1);
            s.due("behind " + turns + " turns, of the last", all.untilGone(15), 18 - turns);
        }
        s.range("the trunk", Sentences.BUSY, 0, 6, DoubtfulTrunks::untilGone, NO_SUCH);
        s.range("of 64, the trunk", y -> Sentences.allCame(y, ""), 0, 63,
                DoubtfulTrunks::untilGone, NO_SUCH);
        s.refused("of none, untilGone(0)", Sentences.NEW, y -> y.untilGone(0), NO_SUCH);
        for (int desk = 0; desk < 3; desk++) {
            DoubtfulTrunks y = new DoubtfulTrunks();
            y.hands(desk, 0);
            Check.come(y, "0:f9/");
            s.due("without hands at the desk " + desk, y.untilGone(0), NONE);
            y.turn(99);
            s.due("where it waits there", y.untilGone(0), NONE);
            y.hands(desk, 1);
            s.due("with a hand again", y.untilGone(0), 3 - desk);
            y.mend(0, 0, 5, 0);
            s.due("alike", y.untilGone(0), 1);
        }
    }

    private static void fate() {
        s.of("Returns 1 it passes unopened, 2 it is opened (also if that was so), 3 it was sent back;"
                + " NO_SUCH if no such trunk came; NONE if it is not gone within 200 turns.");
        DoubtfulTrunks x = goneInEachWay();
        int[] due = {2, 1, 3, 1, 1, 2};
        for (int trunk = 0; trunk < due.length; trunk++) {
            s.due("fate(" + trunk + ")", x.fate(trunk), due[trunk]);
        }
        DoubtfulTrunks small = new DoubtfulTrunks();
        small.trust(0, 9);
        Check.come(small, "0:b5/");
        Check.come(small, "0:a9b1/");
        Check.come(small, "0:b9a2/=");
        Check.come(small, "0:a2b9/");
        Check.come(small, "0:a3b9/");
        int[] fates = {1, 1, 1, 2};
        for (int trunk = 0; trunk < fates.length; trunk++) {
            s.due("of the doubt " + small.trunk(trunk, 3) + ", fate(" + trunk + ")", small.fate(trunk), fates[trunk]);
        }
        DoubtfulTrunks all = Sentences.made(SentencesOfForecastsTest::sixteenToOpen);
        s.due("the last of 16", all.fate(15), 2);
        all.mend(15, 0, 0, 0);
        s.due("the last of 16, alike", all.fate(15), 1);
        s.range("the trunk", Sentences.BUSY, 0, 6, DoubtfulTrunks::fate, NO_SUCH);
        s.range("of 64, the trunk", y -> Sentences.allCame(y, ""), 0, 63, DoubtfulTrunks::fate, NO_SUCH);
        s.refused("of none, fate(0)", Sentences.NEW, y -> y.fate(0), NO_SUCH);
        for (int desk = 0; desk < 3; desk++) {
            DoubtfulTrunks y = new DoubtfulTrunks();
            y.hands(desk, 0);
            Check.come(y, "0:f9/");
            s.due("without hands at the desk " + desk, y.fate(0), NONE);
            y.hands(desk, 1);
            s.due("with a hand", y.fate(0), 2);
        }
    }

    // ---- mostDoubted

    private static void mostDoubted() {
        s.of("Finds the trunk in a queue that is doubted the most; of several the lowest.");
        DoubtfulTrunks x = new DoubtfulTrunks();
        Check.come(x, "0:a1/");
        Check.come(x, "0:a3/");
        Check.come(x, "0:b1/");
        Check.come(x, "0:a3/");
        Check.come(x, "0:c1/");
        s.due("in the middle, of two", x.mostDoubted(), 1);
        x.mend(0, 0, 0, 3);
        s.due("the first, of three", x.mostDoubted(), 0);
        x.mend(4, 0, 2, 2);
        s.due("the last", x.mostDoubted(), 4);
        x.sendBack(4);
        s.due("not one that was sent back", x.mostDoubted(), 0);
        DoubtfulTrunks y = new DoubtfulTrunks();
        Check.come(y, "0:f9/");
        Check.come(y, "0:f9/");
        y.turn(1);
        s.due("the lowest, at the desk 1", y.mostDoubted(), 0);
        y.turn(1);
        s.due("the lowest, at the desk 2", y.mostDoubted(), 0);
        y.turn(1);
        s.due("not one that was opened", y.mostDoubted(), 1);
        DoubtfulTrunks z = new DoubtfulTrunks();
        for (int trunk = 0; trunk < 16; trunk++) {
            Check.come(z, "0:/");
        }
        s.due("of 16 alike ones", z.mostDoubted(), 0);
        z.turn(1);
        s.due("of 15 alike ones, one having passed", z.mostDoubted(), 1);
        z.mend(15, 0, 0, 1);
        s.due("the last of 16", z.mostDoubted(), 15);

        s.of("Returns the trunk; NONE if none is in a queue.");
        s.due("none came", new DoubtfulTrunks().mostDoubted(), NONE);
        DoubtfulTrunks one = new DoubtfulTrunks();
        Check.come(one, "0:f9/");
        s.due("one", one.mostDoubted(), 0);
        one.turn(3);
        s.due("it was opened", one.mostDoubted(), NONE);
        Check.come(one, "0:/");
        s.due("another", one.mostDoubted(), 1);
        one.sendBack(1);
        s.due("it was sent back", one.mostDoubted(), NONE);
        DoubtfulTrunks all = Sentences.made(w -> Sentences.allCame(w, ""));
        s.due("64 passed", all.mostDoubted(), NONE);
        all.undo();
        s.due("undone, the last ones wait", all.mostDoubted(), 48);
    }

    // ---- ifTurned

    private static void ifTurned() {
        s.of("`turns`: 1 to 200");
        s.range("turns", Sentences.BUSY, 1, 200, (x, turns) -> x.ifTurned(turns, 0), BAD_VALUE);
        DoubtfulTrunks x = new DoubtfulTrunks();
        x.hands(0, 0);
        Check.come(x, "0:/");
        for (int turns : new int[] {1, 2, 99, 100, 199, 200}) {
            s.due("the delay of " + turns, x.ifTurned(turns, 2), turns);
        }
        DoubtfulTrunks last = new DoubtfulTrunks();
        Sentences.lastTurn(last);
        Check.come(last, "0:f9/=a1");
        s.due("at the turn 9999, 200 turns", last.ifTurned(200, 2), 2 + 20);

        s.of("`what`: 0 trunks that pass, 1 trunks that are opened,"
                + " 2 what is taken, fees, fines and for delay, together");
        s.range("what", Sentences.BUSY, 0, 2, (y, what) -> y.ifTurned(1, what), BAD_VALUE);
        DoubtfulTrunks y = new DoubtfulTrunks();
        y.set(DoubtfulTrunks.DELAY, 3);
        Check.come(y, "0:f9/=a1b1");
        Check.come(y, "0:a1/");
        Check.come(y, "0:/");
        int[] passed = {0, 1, 3, 3};
        int[] opened = {0, 0, 1, 1};
        int[] taken = {9, 9 + 5 + 6, 20 + 40, 60};
        for (int turns = 1; turns <= passed.length; turns++) {
            s.due("ifTurned(" + turns + ", 0)", y.ifTurned(turns, 0), passed[turns - 1]);
            s.due("ifTurned(" + turns + ", 1)", y.ifTurned(turns, 1), opened[turns - 1]);
            s.due("ifTurned(" + turns + ", 2)", y.ifTurned(turns, 2), taken[turns - 1]);
        }
        y.turn(2);
        s.due("what passed before does not count", y.ifTurned(1, 0), 2);
        s.due("what was taken before does not count", y.ifTurned(1, 2), 40);
        y.turn(1);
        s.due("what was opened before does not count", y.ifTurned(200, 1), 0);
        Check.come(y, "0:f9/");
        y.sendBack(3);
        s.due("what is sent back does not pass", y.ifTurned(200, 0), 0);
    }

    private static void ifTurnedFar() {
        s.of("Returns the number; BAD_VALUE if an argument is out of range.");
        for (int what = 0; what <= 2; what++) {
            int of = what;
            s.due("without trunks", new DoubtfulTrunks().ifTurned(200, what), 0);
            s.range("turns", Sentences.BUSY, 1, 200, (x, turns) -> x.ifTurned(turns, of), BAD_VALUE);
        }
        for (int turns : new int[] {1, 200}) {
            s.range("what", Sentences.BUSY, 0, 2, (x, what) -> x.ifTurned(turns, what), BAD_VALUE);
        }
        s.refused("ifTurned(0, 3)", Sentences.BUSY, x -> x.ifTurned(0, 3), BAD_VALUE);
        s.refused("ifTurned(201, -1)", Sentences.BUSY, x -> x.ifTurned(201, -1), BAD_VALUE);
        DoubtfulTrunks all = Sentences.made(SentencesOfForecastsTest::sixteenToOpen);
        s.due("16 pass in 18 turns", all.ifTurned(18, 0), 16);
        s.due("15 in 17", all.ifTurned(17, 0), 15);
        s.due("all of them opened", all.ifTurned(18, 1), 16);
        DoubtfulTrunks most = Sentences.made(SentencesOfForecastsTest::sixteenToOpen);
        most.hands(0, 0);
        most.set(DoubtfulTrunks.DELAY, 20);
        s.due("the greatest delay", most.ifTurned(200, 2), 16 * 200 * 20);
    }

    // ---- bestHand

    private static DoubtfulTrunks alikes(int trunks) {
        DoubtfulTrunks x = new DoubtfulTrunks();
        for (int trunk = 0; trunk < trunks; trunk++) {
            Check.come(x, "0:/");
        }
        return x;
    }

    /** As many trunks wait at the desk, for want of hands there; the desk 0 has none either. */
    private static DoubtfulTrunks stuck(int desk, int trunks) {
        DoubtfulTrunks x = new DoubtfulTrunks();
        x.set(DoubtfulTrunks.SMALL, 0);
        x.hands(desk, 0);
        for (int trunk = 0; trunk < trunks; trunk++) {
            Check.come(x, "0:a1/");
        }
        x.turn(trunks + 1);
        x.hands(0, 0);
        return x;
    }

    private static void bestHand() {
        s.of("Finds the desk which, with one hand more, would have the most trunks pass in the next 5 turns,"
                + " more than now; of several the lowest.");
        s.due("5 alike ones: all pass now", alikes(5).bestHand(), NONE);
        s.due("6 alike ones: the sixth would pass, too", alikes(6).bestHand(), 0);
        DoubtfulTrunks two = alikes(10);
        two.hands(0, 2);
        s.due("10 alike ones, 2 hands: all pass now", two.bestHand(), NONE);
        Check.come(two, "0:/");
        s.due("11 alike ones, 2 hands", two.bestHand(), 0);
        DoubtfulTrunks fifth = new DoubtfulTrunks();
        fifth.hands(0, 0);
        Check.come(fifth, "0:/");
        s.due("one alike one, no hand: with one it would pass", fifth.bestHand(), 0);

        DoubtfulTrunks tie = stuck(1, 1);
        Check.come(tie, "0:/");
        s.due("one would pass by a hand of 0, one by a hand of 1", tie.bestHand(), 0);
        DoubtfulTrunks more = stuck(1, 2);
        Check.come(more, "0:/");
        s.due("one by a hand of 0, two by a hand of 1", more.bestHand(), 1);
        DoubtfulTrunks top = stuck(2, 2);
        Check.come(top, "0:/");
        s.due("one by a hand of 0, two by a hand of 2", top.bestHand(), 2);
        Check.come(top, "0:/");
        s.due("two by a hand of 0, two by a hand of 2", top.bestHand(), 0);
        DoubtfulTrunks higher = stuck(2, 2);
        higher.hands(1, 0);
        s.due("two by a hand of 2", higher.bestHand(), 2);

        DoubtfulTrunks one = stuck(1, 7);
        one.set(DoubtfulTrunks.SMALL, 200);
        for (int trunk = 0; trunk < 5; trunk++) {
            Check.come(one, "0:/");
        }
        s.due("five by a hand of 0, five by one hand of 1, though seven by two", one.bestHand(), 0);

        DoubtfulTrunks seen = stuck(1, 4);
        s.due("the fourth is opened in the fifth turn", seen.ifTurned(5, 0), 0);
        seen.hands(1, 1);
        s.due("with a hand, four pass in 5 turns", seen.ifTurned(5, 0), 4);
        s.due("a second one would not open more", seen.bestHand(), NONE);
        seen.hands(1, 0);
        s.due("a first one would", seen.bestHand(), 1);
    }

    private static void bestHandReturns() {
        s.of("Returns the desk; NONE if there is none (a desk with 3 hands gets none more).");
        s.due("without trunks", new DoubtfulTrunks().bestHand(), NONE);
        DoubtfulTrunks full = alikes(16);
        full.hands(0, 3);
        s.due("15 of 16 pass by 3 hands", full.ifTurned(5, 0), 15);
        s.due("the desk 0 gets no fourth", full.bestHand(), NONE);
        full.hands(0, 2);
        s.due("it gets a third", full.bestHand(), 0);
        DoubtfulTrunks atOne = stuck(1, 16);
        atOne.set(DoubtfulTrunks.SMALL, 200);
        atOne.hands(1, 3);
        s.due("15 of 16 pass at the desk 1", atOne.ifTurned(5, 0), 15);
        s.due("the desk 1 gets no fourth", atOne.bestHand(), NONE);
        atOne.hands(1, 2);
        s.due("it gets a third", atOne.bestHand(), 1);
        DoubtfulTrunks atTwo = stuck(2, 16);
        atTwo.set(DoubtfulTrunks.OPENS, 4);
        atTwo.hands(2, 3);
        s.due("15 of 16 pass at the desk 2", atTwo.ifTurned(5, 0), 15);
        s.due("the desk 2 gets no fourth", atTwo.bestHand(), NONE);
        atTwo.hands(2, 2);
        s.due("it gets a third", atTwo.bestHand(), 2);
        atTwo.set(DoubtfulTrunks.OPENS, 2);
        s.due("which opens no more by OPENS 2", atTwo.bestHand(), NONE);
    }

    // ---- leastSmall

    /** Whether a trunk is opened with this SMALL, by making the turns. */
    private static boolean opens(DoubtfulTrunks x, int small) {
        int before = x.count(10);
        x.set(DoubtfulTrunks.SMALL, small);
        x.turn(99);
        boolean opened = x.count(10) > before;
        x.undo();
        x.undo();
        return opened;
    }

    private static void leastIs(String what, DoubtfulTrunks x, int due) {
        s.due(what + ", the least SMALL", x.leastSmall(), due);
        if (due != NONE) {
            s.holds(what + ", none is opened with it", !opens(x, due));
        }
        if (due == NONE || due > 0) {
            int less = due == NONE ? 200 : due - 1;
            s.holds(what + ", one is opened with " + less, opens(x, less));
        }
    }

    private static void leastSmall() {
        s.of("Finds the least SMALL with which no trunk of those in queues is ever opened (within 200 turns).");
        leastIs("no trunk", new DoubtfulTrunks(), 0);
        leastIs("16 alike ones", alikes(16), 0);
        for (int pieces = 1; pieces <= 9; pieces++) {
            DoubtfulTrunks x = new DoubtfulTrunks();
            x.trust(0, 9);
            Check.come(x, "0:a" + pieces + "/");
            leastIs("the doubt " + pieces, x, (pieces + 1) / 2);
        }
        DoubtfulTrunks all = Sentences.made(SentencesOfForecastsTest::sixteenToOpen);
        all.mend(15, 0, 0, 9);
        leastIs("the last of 16 is doubted the most", all, 7);
        all.mend(0, 1, 5, 9);
        leastIs("the first of 16 is doubted the most", all, 30);
        all.turn(1);
        leastIs("the first is at the desk 1", all, 30);
        all.turn(1);
        leastIs("the first is at the desk 2", all, NONE);
        all.turn(1);
        all.hands(2, 0);
        leastIs("nobody is left to open", all, 0);
        all.hands(2, 3);
        all.hands(1, 0);
        leastIs("one waits at the desk 2, and nobody is at the desk 1", all, NONE);
        all.turn(1);
        leastIs("none comes up to the desk 2", all, 0);
        DoubtfulTrunks noFirst = Sentences.made(SentencesOfForecastsTest::sixteenToOpen);
        noFirst.hands(0, 0);
        leastIs("nobody is at the desk 0", noFirst, 0);
        DoubtfulTrunks alike = stuck(2, 2);
        alike.hands(2, 1);
        alike.mend(0, 0, 0, 0);
        leastIs("one alike and one not at the desk 2", alike, NONE);
        alike.mend(1, 0, 0, 0);
        leastIs("two alike ones at the desk 2", alike, 0);
        alike.trust(0, 9);
        alike.mend(1, 0, 0, 1);
        s.due("the least doubt", alike.trunk(1, 3), 1);
        leastIs("the least doubt, at the desk 2", alike, NONE);
        DoubtfulTrunks before = new DoubtfulTrunks();
        Check.come(before, "0:f9/");
        before.turn(3);
        leastIs("one was opened before", before, 0);
    }

    private static void leastSmallReturns() {
        s.of("Returns the value, 0 to 200; NONE if there is none.");
        DoubtfulTrunks x = new DoubtfulTrunks();
        for (int kind = 0; kind < 6; kind++) {
            x.weight(kind, 9);
        }
        Check.come(x, "0:a9b9c9d9e8/");
        int[] trusts = {9, 8, 7, 6, 5, 4, 3};
        int[] doubts = {396, 397, 398, 399, 400, 401, 402};
        int[] least = {198, 199, 199, 200, 200, NONE, NONE};
        for (int i = 0; i < trusts.length; i++) {
            x.trust(0, trusts[i]);
            s.due("the doubt", x.trunk(0, 3), doubts[i]);
            leastIs("the doubt " + doubts[i], x, least[i]);
        }
        x.mend(0, 0, 4, 9);
        x.mend(0, 0, 5, 9);
        x.trust(0, 0);
        leastIs("the greatest doubt", x, NONE);
        x.sendBack(0);
        leastIs("it was sent back", x, 0);
        DoubtfulTrunks y = new DoubtfulTrunks();
        y.set(DoubtfulTrunks.SMALL, 200);
        Check.come(y, "0:/");
        leastIs("whatever SMALL is", y, 0);
        s.due("and so it stays", y.count(0), 200);
    }
}
