import java.io.IOException;
import java.nio.file.Files;
import java.nio.file.Path;
import java.util.ArrayList;
import java.util.List;

/**
 * Tests that are each for one sentence of the document: a wrong answer is told with the sentence that it breaks.
 * A test begins with of(..), and what it checks until the next of(..) is for that sentence.
 */
final class Sentences {
    /** Calls on a new object, which bring it where a test begins. */
    interface Scene {
        void play(DoubtfulTrunks x);
    }

    interface Call {
        int on(DoubtfulTrunks x);
    }

    interface CallWithNumber {
        int on(DoubtfulTrunks x, int number);
    }

    static final Scene NEW = x -> { };

    /**
     * Trunks 2, 3, 4 and 6 wait, at the desks 2, 1, 0 and 0; 0 was opened and fined, 1 passed, 5 was sent back, 7 has
     * not come yet. The pad holds the text of one more, the history is full, the slot 0 is filled and the slot 1 not.
     */
    static final Scene BUSY = Sentences::playBusy;

    private static final Path DOCUMENT = Path.of("../shared/DOC.md");
    private static final int TRUNKS_A_LOOK = 7;

    private final String name;
    private final List<String> sentences = new ArrayList<>();
    private int checksOfThis;
    private int checks;
    private int wrong;

    Sentences(String name) {
        this.name = name;
    }

    private static void playBusy(DoubtfulTrunks x) {
        x.set(DoubtfulTrunks.SMALL, 3);
        x.set(DoubtfulTrunks.FINE, 30);
        x.weight(5, 8);
        x.trust(2, 3);
        String[] texts = {"0:f9/=a1b1", "1:/", "2:e9/", "3:d9/=f9", "4:c9/a1", "2:b9/"};
        for (String text : texts) {
            Check.come(x, text);
        }
        x.turn(2);
        x.save(0);
        x.turn(2);
        x.hands(0, 2);
        x.sendBack(5);
        Check.come(x, "0:a9/");
        Check.put(x, "3:b2/c1");
    }

    static void fullQueues(DoubtfulTrunks x, String pad) {
        for (int trunk = 0; trunk < 16; trunk++) {
            Check.come(x, "0:a1/");
        }
        Check.put(x, pad);
    }

    static void allCame(DoubtfulTrunks x, String pad) {
        x.hands(0, 3);
        for (int trunk = 0; trunk < 64; trunk++) {
            x.put(Check.signs("0:/"));
            x.read();
            if (trunk % 16 == 15) {
                x.turn(6);
            }
        }
        Check.put(x, pad);
    }

    static void lastTurn(DoubtfulTrunks x) {
        for (int call = 0; call < 101; call++) {
            x.turn(99);
        }
    }

    static void fullPad(DoubtfulTrunks x) {
        Check.put(x, "0".repeat(60));
    }

    static DoubtfulTrunks made(Scene scene) {
        DoubtfulTrunks x = new DoubtfulTrunks();
        scene.play(x);
        return x;
    }

    void of(String sentence) {
        endSentence();
        sentences.add(sentence);
        checksOfThis = 0;
    }

    private void endSentence() {
        if (!sentences.isEmpty() && checksOfThis == 0) {
            tell("has no check");
        }
    }

    private void tell(String what) {
        wrong++;
        System.out.println(name + ", \"" + sentences.get(sentences.size() - 1) + "\": " + what);
    }

    void due(String call, long got, long want) {
        checks++;
        checksOfThis++;
        if (got != want) {
            tell(call + " answered " + got + ", due is " + want);
        }
    }

    void holds(String what, boolean holds) {
        due(what, holds ? 1 : 0, 1);
    }

    void same(String what, List<Integer> got, List<Integer> want) {
        checks++;
        checksOfThis++;
        if (!got.equals(want)) {
            tell(what + ":\n  got " + got + "\n  due " + want);
        }
    }

    /** A call that is refused with this error, and changes nothing at all. */
    void refused(String call, Scene scene, Call refused, int error) {
        due(call, refused.on(made(scene)), error);
        changesNothing(call, scene, refused);
    }

    /** A call is held against no call: whatever is asked then, the answers are the same. */
    void changesNothing(String call, Scene scene, Call looking) {
        same(call + " changes nothing", all(scene, looking), all(scene, x -> 0));
    }

    /** The least and the greatest number are taken; the next one beyond each, and far ones, are refused. */
    void range(String call, Scene scene, int least, int most, CallWithNumber with, int error) {
        for (int number : new int[] {least, most}) {
            int answer = with.on(made(scene), number);
            holds(call + " takes " + number + ", answered " + answer, answer >= 0 || answer == DoubtfulTrunks.NONE);
        }
        for (int number : new int[] {least - 1, most + 1, Integer.MIN_VALUE, Integer.MAX_VALUE}) {
            refused(call + " with " + number, scene, x -> with.on(x, number), error);
        }
    }

    /** A change is recorded, and undone all is as it was before it, but for the pad and the history. */
    void isChange(String call, Scene scene, Call change) {
        DoubtfulTrunks x = made(scene);
        int before = x.count(18);
        int answer = change.on(x);
        holds(call + " is no error, answered " + answer, answer >= 0);
        due(call + " is recorded", x.count(18), Math.min(4, before + 1));
        DoubtfulTrunks undone = made(scene);
        change.on(undone);
        undone.undo();
        same(call + " is undone", stateOf(undone), stateOf(made(scene)));
    }

    /** A call that is no change records nothing: undo then undoes what was done before it. */
    void isNoChange(String call, Scene scene, Call other) {
        DoubtfulTrunks x = made(scene);
        int before = x.count(18);
        other.on(x);
        due(call + " is not recorded", x.count(18), before);
        DoubtfulTrunks undone = made(scene);
        other.on(undone);
        undone.undo();
        DoubtfulTrunks without = made(scene);
        without.undo();
        same(call + " is not what is undone", stateOf(undone), stateOf(without));
    }

    /** All that calls can tell behind a call: what there is, the pad, the history and the slots. */
    private static List<Integer> all(Scene scene, Call call) {
        List<Integer> seen = new ArrayList<>();
        for (int undone = 0; undone <= 5; undone++) {
            DoubtfulTrunks x = madeWith(scene, call);
            for (int times = 0; times < undone; times++) {
                seen.add(x.undo());
            }
            seen.addAll(everythingOf(x, 0));
        }
        int came = madeWith(scene, call).count(7);
        for (int first = TRUNKS_A_LOOK; first < came; first += TRUNKS_A_LOOK) {
            seen.addAll(everythingOf(madeWith(scene, call), first));
        }
        for (int slot = 0; slot < 2; slot++) {
            DoubtfulTrunks x = madeWith(scene, call);
            seen.add(x.restore(slot));
            seen.addAll(everythingOf(x, 0));
        }
        for (String ending : new String[] {"", "/", "1/", "9"}) {
            DoubtfulTrunks x = madeWith(scene, call);
            Check.put(x, ending);
            seen.add(x.fault());
            int trunk = x.read();
            seen.add(trunk);
            seen.addAll(everythingOf(x, Math.max(0, trunk)));
        }
        return seen;
    }

    private static DoubtfulTrunks madeWith(Scene scene, Call call) {
        DoubtfulTrunks x = made(scene);
        call.on(x);
        return x;
    }

    /** What undo and restore bring back. */
    static List<Integer> stateOf(DoubtfulTrunks x) {
        List<Integer> seen = new ArrayList<>();
        for (int what = 0; what <= 16; what++) {
            seen.add(x.count(what));
        }
        addDesks(x, seen);
        addTrunks(x, 0, seen);
        addWeightsAndTrusts(x, seen);
        return seen;
    }

    private static List<Integer> everythingOf(DoubtfulTrunks x, int firstTrunk) {
        List<Integer> seen = new ArrayList<>();
        for (int what = 0; what <= 18; what++) {
            seen.add(x.count(what));
        }
        seen.add(x.fault());
        addDesks(x, seen);
        addTrunks(x, firstTrunk, seen);
        addWeightsAndTrusts(x, seen);
        return seen;
    }

    private static void addDesks(DoubtfulTrunks x, List<Integer> seen) {
        for (int desk = 0; desk < 3; desk++) {
            for (int what = 0; what <= 4; what++) {
                seen.add(x.desk(desk, what));
            }
        }
    }

    /** Not more trunks than the 512 calls of an object have room for. */
    private static void addTrunks(DoubtfulTrunks x, int first, List<Integer> seen) {
        for (int trunk = first; trunk < Math.min(x.count(7), first + TRUNKS_A_LOOK); trunk++) {
            for (int what = 0; what <= 9; what++) {
                seen.add(x.trunk(trunk, what));
            }
            for (int paper = 0; paper < 3; paper++) {
                for (int kind = 0; kind < 6; kind++) {
                    seen.add(x.pieces(trunk, paper, kind));
                }
            }
        }
    }

    /** Only a change tells these, so they are asked last. */
    private static void addWeightsAndTrusts(DoubtfulTrunks x, List<Integer> seen) {
        for (int kind = 0; kind < 6; kind++) {
            seen.add(x.weight(kind, 1));
        }
        for (int country = 0; country < 5; country++) {
            seen.add(x.trust(country, 0));
        }
    }

    void finish() {
        endSentence();
        noteWhatTheDocumentNoLongerSays();
        System.out.println(name + ": " + sentences.size() + " sentences, " + checks + " checks, " + wrong + " wrong");
        if (wrong > 0) {
            System.exit(1);
        }
    }

    /** A note and no failure: a document that is worded anew must not keep out a class that does what it says. */
    private void noteWhatTheDocumentNoLongerSays() {
        String document;
        try {
            document = Files.readString(DOCUMENT).replaceAll("\\s+", " ");
        } catch (IOException missing) {
            System.out.println("note: " + DOCUMENT + " can't be read");
            return;
        }
        for (String sentence : sentences) {
            if (!document.contains(sentence)) {
                System.out.println("note: the document does not say \"" + sentence + "\"");
            }
        }
    }
}
