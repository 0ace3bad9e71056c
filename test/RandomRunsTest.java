/** Long runs of mixed calls, right and wrong ones, whose every answer is held against the Model's. */
public final class RandomRunsTest {
    private static final int RUNS = 4000;
    private static final int CALLS = 400;
    private static final int[] WILD = {-1, Integer.MIN_VALUE, Integer.MAX_VALUE, -7, 1000, 64, 256};
    private static final String SIGNS = "0123456789abcdef:/=g";

    private final Check check;
    private final int run;
    private final DoubtfulTrunks x = new DoubtfulTrunks();
    private final Model model = new Model();
    private long seed;
    private int calls;
    private int comers;

    private RandomRunsTest(Check check, int run) {
        this.check = check;
        this.run = run;
        this.seed = run * 7919L + 17;
    }

    public static void main(String[] args) {
        Check check = new Check("RandomRuns");
        for (int run = 0; run < RUNS && !check.isWrong(); run++) {
            new RandomRunsTest(check, run).play();
        }
        check.finish();
    }

    /** Our own numbers, so that a run is the same wherever it is made. */
    private int below(int bound) {
        seed = seed * 6364136223846793005L + 1442695040888963407L;
        return (int) ((seed >>> 33) % bound);
    }

    private int number(int least, int most) {
        int chance = below(40);
        if (chance == 0) return WILD[below(WILD.length)];
        if (chance == 1) return least - 1;
        if (chance == 2) return most + 1;
        if (chance == 3) return least;
        if (chance == 4) return most;
        return least + below(most - least + 1);
    }

    private int comer() {
        int came = model.count(7);
        return came == 0 ? number(0, 1) : number(0, came - 1);
    }

    private void due(String call, int got, int want) {
        calls++;
        check.due("run " + run + ", call " + calls + ", " + call, got, want);
    }

    private void play() {
        comers = 1 + below(12);
        if (below(3) == 0) {
            setUp();
        }
        while (calls < CALLS && !check.isWrong()) {
            int kind = below(100);
            if (kind < comers * 3) come();
            else if (kind < 60) look();
            else if (kind < 70) change();
            else if (kind < 76) turn();
            else if (kind < 86) whatIf();
            else if (kind < 91) text();
            else keep();
        }
        lookAtAll();
    }

    /** Desks of other kinds than the first ones: long queues, stuck ones, many hands. */
    private void setUp() {
        for (int desk = 0; desk < 3; desk++) {
            int hands = below(4);
            due("hands(" + desk + ", " + hands + ")", x.hands(desk, hands), model.hands(desk, hands));
        }
        setTo(0, below(3) == 0 ? below(201) : below(20));
        setTo(4, below(3));
        setTo(5, 1 + below(4));
    }

    private void setTo(int setting, int value) {
        due("set(" + setting + ", " + value + ")", x.set(setting, value), model.set(setting, value));
    }

    private void come() {
        wipe();
        put(text(below(4) == 0 ? 6 : 2));
        due("read()", x.read(), model.read());
    }

    private String text(int kinds) {
        String upper = paper(kinds);
        String lower = below(4) == 0 ? upper : paper(kinds);
        String text = below(5) + ":" + upper + "/" + lower;
        return below(2) == 0 ? text : text + "=" + paper(kinds);
    }

    private String paper(int kinds) {
        StringBuilder text = new StringBuilder();
        for (int kind = 0; kind < 6; kind++) {
            if (below(6) < kinds) text.append((char) ('a' + kind)).append(1 + below(kinds == 6 ? 9 : 3));
        }
        return text.toString();
    }

    private void put(String text) {
        for (int i = 0; i < text.length(); ) {
            int length = Math.min(text.length() - i, below(4) == 0 ? 1 + below(8) : 8);
            putNumber(Check.signs(text.substring(i, i + length)));
            i += length;
        }
    }

    private void putNumber(long signs) {
        due("put(" + signs + ")", x.put(signs), model.put(signs));
    }

    private void wipe() {
        due("wipe()", x.wipe(), model.wipe());
    }

    private void look() {
        int trunk = comer();
        int what;
        switch (below(6)) {
            case 0, 1:
                what = number(0, 9);
                due("trunk(" + trunk + ", " + what + ")", x.trunk(trunk, what), model.trunk(trunk, what));
                break;
            case 2:
                what = number(0, 2);
                int kind = number(0, 5);
                due("pieces(" + trunk + ", " + what + ", " + kind + ")",
                        x.pieces(trunk, what, kind), model.pieces(trunk, what, kind));
                break;
            case 3:
                what = number(0, 1);
                due("alike(" + trunk + ", " + what + ")", x.alike(trunk, what), model.alike(trunk, what));
                break;
            case 4:
                int desk = number(0, 2);
                what = number(0, 4);
                due("desk(" + desk + ", " + what + ")", x.desk(desk, what), model.desk(desk, what));
                break;
            default:
                what = number(0, 18);
                due("count(" + what + ")", x.count(what), model.count(what));
        }
    }

    private void change() {
        int first;
        int second;
        switch (below(7)) {
            case 0, 1:
                first = number(0, 5);
                int most = new int[] {40, 50, 90, 20, 3, 4}[Math.floorMod(first, 6)];
                second = below(20) == 0 ? below(300) : number(first == 5 ? 1 : 0, most);
                setTo(first, second);
                break;
            case 2:
                first = number(0, 5);
                second = number(1, 9);
                due("weight(" + first + ", " + second + ")", x.weight(first, second), model.weight(first, second));
                break;
            case 3:
                first = number(0, 4);
                second = number(0, 9);
                due("trust(" + first + ", " + second + ")", x.trust(first, second), model.trust(first, second));
                break;
            case 4:
                first = number(0, 2);
                second = number(0, 3);
                due("hands(" + first + ", " + second + ")", x.hands(first, second), model.hands(first, second));
                break;
            case 5:
                first = comer();
                due("sendBack(" + first + ")", x.sendBack(first), model.sendBack(first));
                break;
            default:
                mend();
        }
    }

    private void mend() {
        int trunk = comer();
        int paper = number(0, 1);
        int kind = number(0, 5);
        int pieces = number(0, 9);
        due("mend(" + trunk + ", " + paper + ", " + kind + ", " + pieces + ")",
                x.mend(trunk, paper, kind, pieces), model.mend(trunk, paper, kind, pieces));
    }

    private void turn() {
        int turns = below(10) == 0 ? number(1, 99) : 1 + below(2);
        due("turn(" + turns + ")", x.turn(turns), model.turn(turns));
    }

    private void whatIf() {
        int trunk = comer();
        switch (below(6)) {
            case 0:
                due("untilGone(" + trunk + ")", x.untilGone(trunk), model.untilGone(trunk));
                break;
            case 1:
                due("fate(" + trunk + ")", x.fate(trunk), model.fate(trunk));
                break;
            case 2:
                due("mostDoubted()", x.mostDoubted(), model.mostDoubted());
                break;
            case 3:
                int turns = below(2) == 0 ? 1 + below(6) : number(1, 200);
                int what = number(0, 2);
                due("ifTurned(" + turns + ", " + what + ")", x.ifTurned(turns, what), model.ifTurned(turns, what));
                break;
            case 4:
                due("bestHand()", x.bestHand(), model.bestHand());
                break;
            default:
                due("leastSmall()", x.leastSmall(), model.leastSmall());
        }
    }

    private void text() {
        switch (below(4)) {
            case 0:
                wipe();
                break;
            case 1:
                due("fault()", x.fault(), model.fault());
                break;
            case 2:
                badText();
                break;
            default:
                putNumber(below(3) == 0 ? wildSigns() : Check.signs("" + SIGNS.charAt(below(SIGNS.length()))));
        }
    }

    /** A right text with a sign changed, left out or put in. */
    private void badText() {
        StringBuilder text = new StringBuilder(text(below(2) == 0 ? 6 : 2));
        int at = below(text.length());
        char sign = SIGNS.charAt(below(SIGNS.length()));
        switch (below(4)) {
            case 0: text.setCharAt(at, sign); break;
            case 1: text.deleteCharAt(at); break;
            case 2: text.insert(at, sign); break;
            default: text.setLength(at);
        }
        wipe();
        put(text.toString());
        due("fault()", x.fault(), model.fault());
        due("read()", x.read(), model.read());
    }

    private long wildSigns() {
        long signs = 0;
        for (int i = 0; i < 8; i++) {
            int[] codes = {0, 32, 33, 126, 127, 200, 255, 48 + below(10)};
            signs = signs << 8 | codes[below(3) == 0 ? below(8) : below(2) == 0 ? 7 : i < 5 ? 0 : 2];
        }
        return signs;
    }

    private void keep() {
        int slot = number(0, 1);
        switch (below(4)) {
            case 0:
                due("save(" + slot + ")", x.save(slot), model.save(slot));
                break;
            case 1:
                due("restore(" + slot + ")", x.restore(slot), model.restore(slot));
                break;
            default:
                due("undo()", x.undo(), model.undo());
        }
    }

    private void lookAtAll() {
        for (int what = 0; what <= 18; what++) {
            due("count(" + what + ")", x.count(what), model.count(what));
        }
        for (int desk = 0; desk < 3; desk++) {
            for (int what = 0; what <= 4; what++) {
                due("desk(" + desk + ", " + what + ")", x.desk(desk, what), model.desk(desk, what));
            }
        }
        for (int trunk = 0; trunk < model.count(7) && calls < 490; trunk++) {
            for (int what = 0; what <= 9; what++) {
                due("trunk(" + trunk + ", " + what + ")", x.trunk(trunk, what), model.trunk(trunk, what));
            }
        }
    }
}
