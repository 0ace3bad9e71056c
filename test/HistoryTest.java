import java.util.ArrayList;
import java.util.List;

/** Promises 24 to 26: undo, save, restore. */
public final class HistoryTest {
    private static final Check check = new Check("History");

    public static void main(String[] args) {
        undo();
        fourAreKept();
        everyChange();
        refusedChanges();
        padStays();
        save();
        restore();
        restoreIsAChange();
        slotsStay();
        numbersGivenAnew();
        check.finish();
    }

    /** A state in which nothing is as it was at first. */
    private static DoubtfulTrunks busy() {
        DoubtfulTrunks x = new DoubtfulTrunks();
        x.hands(0, 2);
        Check.come(x, "3:f9/=a1");
        Check.come(x, "1:a5/");
        Check.come(x, "2:b9c9/f1");
        Check.come(x, "0:/");
        x.turn(3);
        return x;
    }

    /** All but the pad and how many changes can be undone. */
    private static List<Integer> state(DoubtfulTrunks x, int trunks) {
        List<Integer> seen = new ArrayList<>(Check.view(x, trunks));
        seen.remove(seen.size() - 1);
        seen.remove(18);
        seen.remove(17);
        return seen;
    }

    private static void undo() {
        DoubtfulTrunks x = new DoubtfulTrunks();
        check.due("24: nothing to undo", x.undo(), -5);
        x.set(0, 7);
        x.set(0, 8);
        check.due("24: undo", x.undo(), 1);
        check.due("24: the value before", x.count(0), 7);
        check.due("24: undo again", x.undo(), 0);
        check.due("24: the first value", x.count(0), 10);
        check.due("24: no more", x.undo(), -5);
        check.due("24: unchanged", x.count(0), 10);
        x.set(0, 9);
        check.due("24: recorded anew", x.count(18), 1);
    }

    private static void fourAreKept() {
        DoubtfulTrunks x = new DoubtfulTrunks();
        for (int value = 1; value <= 6; value++) {
            x.set(0, value);
            check.due("24: how many", x.count(18), Math.min(value, 4));
        }
        for (int left = 3; left >= 0; left--) {
            check.due("24: undo", x.undo(), left);
            check.due("24: the value", x.count(0), left + 2);
        }
        check.due("24: the oldest was dropped", x.undo(), -5);
        x.set(1, 1);
        x.set(1, 2);
        check.due("24: undo", x.undo(), 1);
        x.set(1, 3);
        x.set(1, 4);
        x.set(1, 6);
        x.set(1, 7);
        check.due("24: four", x.count(18), 4);
        int[] values = {6, 4, 3, 1};
        for (int i = 0; i < 4; i++) {
            x.undo();
            check.due("24: the value", x.count(1), values[i]);
        }
    }

    private static int change(DoubtfulTrunks x, int which) {
        switch (which) {
            case 0: return x.set(DoubtfulTrunks.DELAY, 3);
            case 1: return x.weight(5, 9);
            case 2: return x.trust(2, 0);
            case 3: return x.hands(1, 3);
            case 4: return Check.come(x, "4:a1/=b1");
            case 5: return x.mend(2, 1, 0, 9);
            case 6: return x.sendBack(2);
            case 7: return x.turn(5);
            default: return x.restore(1);
        }
    }

    private static void everyChange() {
        for (int which = 0; which <= 8; which++) {
            DoubtfulTrunks x = busy();
            x.save(1);
            x.hands(2, 3);
            List<Integer> before = state(x, 4);
            check.holds("24: the change " + which + " is made", change(x, which) >= 0);
            check.holds("24: it shows", !state(x, 4).equals(before));
            check.due("24: it is undone", x.undo(), 3);
            check.same("24: as before the change " + which, state(x, 4), before);
        }
        DoubtfulTrunks x = busy();
        x.weight(5, 9);
        x.trust(2, 0);
        x.undo();
        x.undo();
        check.due("24: the weight is back", x.weight(5, 1), 6);
        check.due("24: the trust is back", x.trust(2, 1), 5);
    }

    private static void refusedChanges() {
        DoubtfulTrunks x = busy();
        List<Integer> before = Check.view(x, 4);
        x.set(6, 0);
        x.weight(6, 1);
        x.weight(0, 10);
        x.trust(5, 1);
        x.trust(0, 10);
        x.hands(3, 1);
        x.hands(0, 4);
        x.read();
        x.mend(9, 0, 0, 0);
        x.mend(2, 5, 0, 0);
        x.sendBack(9);
        x.sendBack(0);
        x.turn(0);
        x.restore(0);
        x.restore(2);
        x.save(2);
        x.put(0);
        check.same("24: refused calls change nothing", Check.view(x, 4), before);
        check.due("24: and are not recorded", x.undo(), 3);
    }

    private static void padStays() {
        DoubtfulTrunks x = new DoubtfulTrunks();
        Check.come(x, "0:/");
        Check.put(x, "1:a2/");
        x.undo();
        check.due("24: the pad stays", x.count(17), 5);
        check.due("24: the trunk did not come", x.count(7), 0);
        check.due("24: it can be read", x.read(), 0);
        check.due("24: the number is given anew", x.trunk(0, 0), 1);
        x.undo();
        check.due("24: the pad is not brought back", x.count(17), 0);
        x.save(0);
        Check.put(x, "0:");
        x.restore(0);
        check.due("26: the pad stays", x.count(17), 2);
        x.wipe();
        x.restore(0);
        check.due("26: the pad stays empty", x.count(17), 0);
    }

    private static void save() {
        DoubtfulTrunks x = busy();
        List<Integer> before = Check.view(x, 4);
        for (int slot : new int[] {-1, 2, Integer.MIN_VALUE, Integer.MAX_VALUE}) {
            check.due("25: save(" + slot + ")", x.save(slot), -2);
        }
        check.due("25: save(0)", x.save(0), 3);
        check.due("25: save(1)", x.save(1), 3);
        check.same("25: saving changes nothing, and is no change", Check.view(x, 4), before);
        x.turn(4);
        check.due("25: the turns", x.save(0), 7);
    }

    private static void restore() {
        DoubtfulTrunks x = busy();
        for (int slot : new int[] {-1, 2, Integer.MIN_VALUE, Integer.MAX_VALUE}) {
            check.due("26: restore(" + slot + ")", x.restore(slot), -2);
        }
        check.due("26: nothing was saved", x.restore(0), -5);
        x.save(0);
        check.due("26: nor in the other", x.restore(1), -5);
        List<Integer> saved = state(x, 4);
        x.weight(5, 9);
        x.trust(2, 0);
        x.set(DoubtfulTrunks.DELAY, 7);
        x.hands(2, 0);
        x.mend(2, 0, 0, 9);
        Check.come(x, "0:/");
        x.turn(9);
        x.sendBack(2);
        check.due("26: restore(0)", x.restore(0), 3);
        check.same("26: as it was saved", state(x, 4), saved);
        check.due("26: the weight", x.weight(5, 1), 6);
        check.due("26: the trust", x.trust(2, 1), 5);
        x.turn(9);
        check.due("26: the slot keeps it", x.restore(0), 3);
        check.same("26: as it was saved, again", state(x, 4), saved);
    }

    private static void restoreIsAChange() {
        DoubtfulTrunks x = new DoubtfulTrunks();
        x.save(0);
        x.turn(2);
        check.due("26: restore", x.restore(0), 0);
        check.due("26: it is recorded", x.count(18), 2);
        check.due("26: it is undone", x.undo(), 1);
        check.due("26: the turns are back", x.count(6), 2);
        x.restore(0);
        x.restore(0);
        check.due("26: recorded, also if nothing is different then", x.count(18), 3);
        x.undo();
        check.due("26: nothing was different", x.count(6), 0);
        x.undo();
        check.due("26: before the first restore", x.count(6), 2);
    }

    private static void slotsStay() {
        DoubtfulTrunks x = new DoubtfulTrunks();
        x.turn(1);
        x.save(0);
        x.turn(1);
        x.save(1);
        x.turn(1);
        x.undo();
        x.undo();
        x.undo();
        check.due("25: undo leaves the slots", x.restore(1), 2);
        check.due("25: each has its own", x.restore(0), 1);
        x.turn(4);
        check.due("25: what was saved is overwritten", x.save(1), 5);
        x.restore(0);
        check.due("26: the last one saved", x.restore(1), 5);
        check.due("26: the other is as it was", x.restore(0), 1);
        x.undo();
        x.undo();
        check.due("26: restoring leaves the slots", x.restore(1), 5);
    }

    /** A number that was undone is given to another trunk, of which nothing of the former one may be told. */
    private static void numbersGivenAnew() {
        DoubtfulTrunks x = new DoubtfulTrunks();
        x.turn(2);
        x.set(DoubtfulTrunks.SMALL, 0);
        Check.come(x, "3:b2/a1=f9");
        x.turn(3);
        List<Integer> former = state(x, 1);
        x.save(0);
        check.due("24: opened", x.trunk(0, 7), 2);
        x.undo();
        x.undo();
        check.due("24: it did not come", x.count(7), 0);
        check.due("24: it was not opened", x.count(10), 0);
        check.due("24: nothing was taken", x.count(15), 0);
        x.turn(1);
        Check.come(x, "1:c3/");
        int[] due = {1, 0, 0, 9 + 4, 4, 0, 3, 0, 0, 0};
        for (int what = 0; what <= 9; what++) {
            check.due("24: of the other, trunk(0, " + what + ")", x.trunk(0, what), due[what]);
        }
        x.restore(0);
        check.same("26: of the former one", state(x, 1), former);
        x.undo();
        for (int what = 0; what <= 9; what++) {
            check.due("24: of the other again, trunk(0, " + what + ")", x.trunk(0, what), due[what]);
        }
    }
}
