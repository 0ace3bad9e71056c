import java.util.ArrayList;
import java.util.List;

/** The sentences of the promises 24 to 26 that name a boundary case: undo, save, restore. */
public final class SentencesOfHistoryTest {
    private static final int BAD_VALUE = -2, NOT_POSSIBLE = -5;

    private static final Sentences s = new Sentences("SentencesOfHistory");

    public static void main(String[] args) {
        undoBringsBack();
        undoGivesNumbersAnew();
        fourStates();
        everyChangeIsRecorded();
        sameIsRecordedToo();
        oldestIsDropped();
        undoReturns();
        save();
        saveReturns();
        restore();
        restoreReturns();
        s.finish();
    }

    // ---- undo

    private static void undoBringsBack() {
        s.of("Undoes the latest change: everything except the pad, the slots and the history is as it was before it.");
        s.isChange("set", Sentences.BUSY, x -> x.set(0, 200));
        s.isChange("turn", Sentences.BUSY, x -> x.turn(9));
        s.isChange("restore", Sentences.BUSY, x -> x.restore(0));
        DoubtfulTrunks x = Sentences.made(Sentences.BUSY);
        x.read();
        Check.put(x, "0:");
        x.undo();
        s.due("the pad stays as it is", x.count(17), 2);
        x.put('/');
        s.due("the trunk did not come", x.read(), 7);
        s.due("another one did", x.trunk(7, 0), 0);
        x.save(1);
        x.undo();
        s.due("the slot stays filled", x.restore(1), 4);
        s.due("with what was saved", x.count(7), 8);
        DoubtfulTrunks y = Sentences.made(Sentences.BUSY);
        y.undo();
        s.due("the history is not brought back", y.count(18), 3);
        s.due("the latest change was read", y.count(7), 6);
        y.undo();
        s.due("before it, sendBack", y.count(11), 0);
        y.undo();
        s.due("before it, hands", y.desk(0, 0), 1);
        y.undo();
        s.due("before it, turn", y.count(6), 2);
    }

    /** A trunk of the country 3 came behind the turn 2, was handed on twice, opened, and fined for f. */
    private static DoubtfulTrunks openedOne() {
        DoubtfulTrunks x = new DoubtfulTrunks();
        x.turn(2);
        x.set(DoubtfulTrunks.SMALL, 0);
        Check.come(x, "3:b2/a1=f9");
        x.turn(3);
        return x;
    }

    private static void undoGivesNumbersAnew() {
        s.of("everything except the pad, the slots and the history is as it was before it.");
        int[] former = {3, -6, -6, 1 + 4 + 4, 3, 2 + 20, 2, 2, 32, 2};
        int[] other = {1, 0, 0, 9 + 4, 4, 0, 3, 0, 0, 0};
        DoubtfulTrunks x = openedOne();
        trunkIs("the former trunk", x, former);
        x.undo();
        x.undo();
        s.due("it did not come", x.count(7), 0);
        s.due("nothing is known of it", x.trunk(0, 0), -1);
        s.due("nothing was taken", x.count(15), 0);
        s.due("nothing was opened", x.count(10), 0);
        x.turn(1);
        Check.come(x, "1:c3/");
        trunkIs("another one with its number", x, other);
        int[] pieces = {0, 0, 3, 0, 0, 0};
        for (int kind = 0; kind < 6; kind++) {
            s.due("the upper paper of the other one", x.pieces(0, 0, kind), pieces[kind]);
            s.due("the lower paper of the other one", x.pieces(0, 1, kind), 0);
            s.due("in the other one", x.pieces(0, 2, kind), pieces[kind]);
        }
    }

    private static void trunkIs(String which, DoubtfulTrunks x, int[] due) {
        for (int what = 0; what < due.length; what++) {
            s.due(which + ", trunk(0, " + what + ")", x.trunk(0, what), due[what]);
        }
    }

    private static void fourStates() {
        s.of("A history of at most 4 states is kept:");
        for (int changes = 0; changes <= 9; changes++) {
            DoubtfulTrunks x = new DoubtfulTrunks();
            for (int change = 1; change <= changes; change++) {
                x.set(DoubtfulTrunks.FEE, change + 10);
            }
            int kept = Math.min(4, changes);
            s.due("behind " + changes + " changes", x.count(18), kept);
            for (int left = kept - 1; left >= 0; left--) {
                s.due("undo of " + changes, x.undo(), left);
                int due = changes - kept + left == 0 ? 5 : changes - kept + left + 10;
                s.due("FEE then", x.count(1), due);
            }
            int made = changes;
            s.refused("undo when none is left", y -> changesAndUndos(y, made, kept), DoubtfulTrunks::undo,
                    NOT_POSSIBLE);
        }
    }

    private static void changesAndUndos(DoubtfulTrunks x, int changes, int undos) {
        for (int change = 1; change <= changes; change++) {
            x.set(DoubtfulTrunks.FEE, change + 10);
        }
        for (int undo = 0; undo < undos; undo++) {
            x.undo();
        }
    }

    private static void everyChangeIsRecorded() {
        s.of("each method that is a change, and returns no error, records the state before it");
        s.isChange("set", Sentences.BUSY, x -> x.set(3, 9));
        s.isChange("weight", Sentences.BUSY, x -> x.weight(3, 9));
        s.isChange("trust", Sentences.BUSY, x -> x.trust(3, 9));
        s.isChange("hands", Sentences.BUSY, x -> x.hands(2, 3));
        s.isChange("read", Sentences.BUSY, DoubtfulTrunks::read);
        s.isChange("mend", Sentences.BUSY, x -> x.mend(2, 0, 0, 1));
        s.isChange("sendBack", Sentences.BUSY, x -> x.sendBack(2));
        s.isChange("turn", Sentences.BUSY, x -> x.turn(1));
        s.isChange("restore", Sentences.BUSY, x -> x.restore(0));
        s.isNoChange("set refused", Sentences.BUSY, x -> x.set(3, 21));
        s.isNoChange("weight refused", Sentences.BUSY, x -> x.weight(3, 10));
        s.isNoChange("trust refused", Sentences.BUSY, x -> x.trust(3, 10));
        s.isNoChange("hands refused", Sentences.BUSY, x -> x.hands(2, 4));
        s.isNoChange("read refused", x -> putMore(x, "x"), DoubtfulTrunks::read);
        s.isNoChange("mend refused", Sentences.BUSY, x -> x.mend(2, 0, 0, 10));
        s.isNoChange("sendBack refused", Sentences.BUSY, x -> x.sendBack(0));
        s.isNoChange("turn refused", Sentences.BUSY, x -> x.turn(0));
        s.isNoChange("restore refused", Sentences.BUSY, x -> x.restore(1));
        s.isNoChange("save", Sentences.BUSY, x -> x.save(1));
        s.isNoChange("put", Sentences.BUSY, x -> x.put('1'));
        s.isNoChange("wipe", Sentences.BUSY, DoubtfulTrunks::wipe);
        s.isNoChange("fault", Sentences.BUSY, DoubtfulTrunks::fault);
        s.isNoChange("count", Sentences.BUSY, x -> x.count(18));
    }

    private static void putMore(DoubtfulTrunks x, String text) {
        Sentences.BUSY.play(x);
        Check.put(x, text);
    }

    private static void sameIsRecordedToo() {
        s.of("(also if nothing is different then)");
        s.isChange("set to what it is", Sentences.NEW, x -> x.set(0, 10));
        s.isChange("weight as it is", Sentences.NEW, x -> x.weight(0, 1));
        s.isChange("trust as it is", Sentences.NEW, x -> x.trust(0, 5));
        s.isChange("hands as they are", Sentences.NEW, x -> x.hands(0, 1));
        s.isChange("mend to what it is", x -> Check.come(x, "0:a1/"), x -> x.mend(0, 0, 0, 1));
        s.isChange("restore of what is", x -> x.save(0), x -> x.restore(0));
        DoubtfulTrunks x = new DoubtfulTrunks();
        x.set(0, 11);
        x.set(0, 11);
        x.undo();
        s.due("undone, nothing is different", x.count(0), 11);
        x.undo();
        s.due("undone once more", x.count(0), 10);
    }

    private static void oldestIsDropped() {
        s.of("when one more is recorded, the oldest one is dropped");
        DoubtfulTrunks x = new DoubtfulTrunks();
        for (int value = 1; value <= 5; value++) {
            x.set(0, value);
        }
        x.undo();
        x.undo();
        s.due("two are left", x.count(18), 2);
        x.set(0, 103);
        x.set(0, 104);
        s.due("no more than four", x.count(18), 4);
        x.set(0, 105);
        s.due("four still", x.count(18), 4);
        int[] values = {104, 103, 3, 2};
        for (int left = 3; left >= 0; left--) {
            s.due("undo", x.undo(), left);
            s.due("SMALL then", x.count(0), values[3 - left]);
        }
        s.due("the state of SMALL 1 was dropped", x.undo(), NOT_POSSIBLE);
    }

    private static void undoReturns() {
        s.of("Returns how many changes can be undone then; NOT_POSSIBLE if there is none.");
        s.refused("undo of a new object", Sentences.NEW, DoubtfulTrunks::undo, NOT_POSSIBLE);
        DoubtfulTrunks x = new DoubtfulTrunks();
        x.set(0, 1);
        s.due("undo of one", x.undo(), 0);
        s.due("undo of none", x.undo(), NOT_POSSIBLE);
        x.set(0, 2);
        s.due("undo of another one", x.undo(), 0);
        DoubtfulTrunks busy = Sentences.made(Sentences.BUSY);
        for (int left = 3; left >= 0; left--) {
            s.due("undo", busy.undo(), left);
            s.due("how many are left", busy.count(18), left);
        }
        s.due("undo of none", busy.undo(), NOT_POSSIBLE);
    }

    // ---- save, restore

    /** The pad, and how many changes can be undone. */
    private static List<Integer> padAndHistory(DoubtfulTrunks x) {
        return new ArrayList<>(List.of(x.count(17), x.fault(), x.count(18)));
    }

    private static void save() {
        s.of("Saves everything except the pad, the history and the slots in a slot,"
                + " and overwrites what was saved there.");
        for (int slot = 0; slot < 2; slot++) {
            DoubtfulTrunks x = Sentences.made(Sentences.BUSY);
            x.save(slot);
            for (int change = 0; change < 4; change++) {
                x.turn(3);
                x.trust(1, change);
                x.weight(1, 9 - change);
                x.hands(change % 3, 0);
                x.set(change, 20);
            }
            x.mend(4, 1, 1, 1);
            x.sendBack(4);
            Check.come(x, "4:/");
            x.restore(slot);
            s.same("everything is in the slot " + slot, Sentences.stateOf(x),
                    Sentences.stateOf(Sentences.made(Sentences.BUSY)));
        }
        DoubtfulTrunks pad = Sentences.made(Sentences.BUSY);
        pad.save(1);
        pad.wipe();
        Check.put(pad, "1:a");
        pad.restore(1);
        s.same("the pad is not in it, nor the history", padAndHistory(pad), List.of(3, 3, 4));
        DoubtfulTrunks slots = new DoubtfulTrunks();
        slots.turn(1);
        slots.save(0);
        slots.turn(1);
        slots.save(1);
        slots.turn(1);
        slots.save(0);
        s.due("the slots are not in it", slots.restore(1), 2);
        s.due("what was saved is overwritten", slots.restore(0), 3);
        DoubtfulTrunks again = new DoubtfulTrunks();
        Sentences.allCame(again, "");
        again.save(1);
        DoubtfulTrunks few = new DoubtfulTrunks();
        Check.come(few, "0:a1/");
        few.save(0);
        few.turn(1);
        few.save(0);
        few.turn(1);
        s.due("overwritten by the later state", few.restore(0), 1);
        s.due("in which the trunk had passed", few.trunk(0, 7), 1);
        again.turn(1);
        again.restore(1);
        s.due("64 trunks are saved", again.count(7), 64);
        s.due("the last of them, too", again.trunk(63, 7), 1);
        s.changesNothing("saving where the same is saved", x -> busySavedIn(x, 1), x -> x.save(1));
        s.isNoChange("save(0)", Sentences.BUSY, x -> x.save(0));
    }

    private static void busySavedIn(DoubtfulTrunks x, int slot) {
        Sentences.BUSY.play(x);
        x.save(slot);
    }

    private static void saveReturns() {
        s.of("`slot`: 0 or 1");
        s.range("save of the slot", Sentences.BUSY, 0, 1, DoubtfulTrunks::save, BAD_VALUE);
        s.range("restore of the slot", x -> busySavedIn(x, 1), 0, 1, DoubtfulTrunks::restore, BAD_VALUE);

        s.of("Returns the turns; BAD_VALUE if there is no such slot.");
        DoubtfulTrunks x = new DoubtfulTrunks();
        s.due("at the turn 0, save(0)", x.save(0), 0);
        s.due("at the turn 0, save(1)", x.save(1), 0);
        x.turn(99);
        s.due("at the turn 99, save(0)", x.save(0), 99);
        s.due("at the turn 99, save(1)", x.save(1), 99);
        DoubtfulTrunks last = Sentences.made(Sentences::lastTurn);
        s.due("at the turn 9999, save(1)", last.save(1), 9999);
        s.range("the slot", Sentences.BUSY, 0, 1, DoubtfulTrunks::save, BAD_VALUE);
        s.range("of a new object, the slot", Sentences.NEW, 0, 1, DoubtfulTrunks::save, BAD_VALUE);
    }

    private static void restore() {
        s.of("Restores what was saved last in a slot, which keeps it. This is a change.");
        DoubtfulTrunks x = Sentences.made(Sentences.BUSY);
        s.due("restore(0)", x.restore(0), 2);
        x.turn(5);
        x.sendBack(4);
        s.due("the slot keeps it", x.restore(0), 2);
        s.due("nothing is sent back in it", x.count(11), 0);
        x.restore(0);
        x.mend(2, 0, 0, 7);
        s.due("a third time", x.restore(0), 2);
        s.due("not mended in it", x.pieces(2, 0, 0), 0);
        DoubtfulTrunks former = openedOne();
        former.save(0);
        List<Integer> saved = Sentences.stateOf(openedOne());
        former.undo();
        former.undo();
        former.turn(1);
        Check.come(former, "1:c3/");
        former.restore(0);
        s.same("though another trunk has its number since", Sentences.stateOf(former), saved);
        DoubtfulTrunks earlier = new DoubtfulTrunks();
        earlier.turn(3);
        earlier.save(1);
        Check.come(earlier, "3:f9/=a1");
        earlier.turn(3);
        earlier.restore(1);
        s.due("the trunk did not come then", earlier.trunk(0, 0), -1);
        Check.come(earlier, "1:c3/");
        int[] next = {1, 0, 0, 9 + 4, 4, 0, 3, 0, 0, 0};
        trunkIs("nothing of the former trunk is told of the next one", earlier, next);
        s.isChange("restore(0)", Sentences.BUSY, y -> y.restore(0));
        s.isChange("restore(1)", y -> busySavedIn(y, 1), y -> y.restore(1));
        DoubtfulTrunks y = new DoubtfulTrunks();
        for (int turns = 1; turns <= 3; turns++) {
            y.turn(1);
            y.save(1);
        }
        y.turn(1);
        s.due("what was saved last", y.restore(1), 3);
        y.undo();
        s.due("undone", y.count(6), 4);
        s.due("the slot keeps it then, too", y.restore(1), 3);
    }

    private static void restoreReturns() {
        s.of("Returns the turns then; BAD_VALUE if there is no such slot; NOT_POSSIBLE if nothing was saved in it.");
        s.refused("nothing was saved, restore(0)", Sentences.NEW, x -> x.restore(0), NOT_POSSIBLE);
        s.refused("nothing was saved, restore(1)", Sentences.NEW, x -> x.restore(1), NOT_POSSIBLE);
        s.refused("saved in 0 alone, restore(1)", Sentences.BUSY, x -> x.restore(1), NOT_POSSIBLE);
        s.refused("saved in 1 alone, restore(0)", x -> x.save(1), x -> x.restore(0), NOT_POSSIBLE);
        s.range("the slot", x -> busySavedIn(x, 1), 0, 1, DoubtfulTrunks::restore, BAD_VALUE);
        for (int slot : new int[] {-1, 2, Integer.MIN_VALUE, Integer.MAX_VALUE}) {
            s.refused("nothing was saved, restore(" + slot + ")", Sentences.NEW, x -> x.restore(slot), BAD_VALUE);
        }
        DoubtfulTrunks x = new DoubtfulTrunks();
        x.save(0);
        x.turn(99);
        x.save(1);
        s.due("saved at the turn 0", x.restore(0), 0);
        s.due("the turns", x.count(6), 0);
        s.due("saved at the turn 99", x.restore(1), 99);
        s.due("the turns", x.count(6), 99);
        DoubtfulTrunks refused = new DoubtfulTrunks();
        refused.save(2);
        s.due("a refused save fills no slot", refused.restore(0), NOT_POSSIBLE);
        s.due("nor the other", refused.restore(1), NOT_POSSIBLE);
    }
}
