/** The sentences of the promises 10 to 14 that name a boundary case: what there is. */
public final class SentencesOfLooksTest {
    private static final int NO_SUCH = -1, BAD_VALUE = -2, NONE = -6;

    private static final Sentences s = new Sentences("SentencesOfLooks");

    public static void main(String[] args) {
        nothingChanges();
        trunkAndPapers();
        trunkOnItsWay();
        trunkAnswers();
        pieces();
        alike();
        desk();
        deskOverTime();
        countOfWhatThereIs();
        countOfWhatWasTaken();
        countOfThePadAndHistory();
        s.finish();
    }

    private static DoubtfulTrunks withTrunk(String text) {
        DoubtfulTrunks x = new DoubtfulTrunks();
        Check.come(x, text);
        return x;
    }

    private static void nothingChanges() {
        s.of("the interface says: ---- what there is; nothing changes.");
        s.isNoChange("trunk(2, 3)", Sentences.BUSY, x -> x.trunk(2, 3));
        s.isNoChange("pieces(2, 0, 4)", Sentences.BUSY, x -> x.pieces(2, 0, 4));
        s.isNoChange("alike(2, 1)", Sentences.BUSY, x -> x.alike(2, 1));
        s.isNoChange("desk(2, 2)", Sentences.BUSY, x -> x.desk(2, 2));
        s.isNoChange("count(15)", Sentences.BUSY, x -> x.count(15));
        s.changesNothing("trunk(2, 3)", Sentences.BUSY, x -> x.trunk(2, 3));
        s.changesNothing("pieces(2, 0, 4)", Sentences.BUSY, x -> x.pieces(2, 0, 4));
        s.changesNothing("alike(2, 1)", Sentences.BUSY, x -> x.alike(2, 1));
        s.changesNothing("desk(2, 2)", Sentences.BUSY, x -> x.desk(2, 2));
        s.changesNothing("count(15)", Sentences.BUSY, x -> x.count(15));
    }

    // ---- trunk

    private static void trunkAndPapers() {
        s.of("0 its country, 1 the desk in whose queue it is (NONE), 2 its place in that queue (NONE), 3 its doubt,");
        for (int country = 0; country < 5; country++) {
            s.due("the country", withTrunk(country + ":/").trunk(0, 0), country);
        }
        int[] desks = {NONE, NONE, 2, 1, 0, NONE, 0};
        int[] places = {NONE, NONE, 0, 0, 0, NONE, 1};
        int[] doubts = {9 * 8 + 4, 0, 45 + 6, 36 + 4, 27 + 1 + 4, 18 + 6, 9 + 4};
        DoubtfulTrunks x = Sentences.made(Sentences.BUSY);
        for (int trunk = 0; trunk < 7; trunk++) {
            s.due("the desk of " + trunk, x.trunk(trunk, 1), desks[trunk]);
            s.due("the place of " + trunk, x.trunk(trunk, 2), places[trunk]);
            s.due("the doubt of " + trunk, x.trunk(trunk, 3), doubts[trunk]);
        }
        DoubtfulTrunks full = new DoubtfulTrunks();
        Sentences.fullQueues(full, "");
        for (int trunk = 0; trunk < 16; trunk++) {
            s.due("the place, the last is 15", full.trunk(trunk, 2), trunk);
        }

        s.of("4 kinds in which its papers disagree, as a set (a bit mask),");
        String letters = "abcdef";
        for (int set = 0; set < 64; set++) {
            StringBuilder paper = new StringBuilder();
            for (int kind = 0; kind < 6; kind++) {
                paper.append((set >> kind & 1) == 1 ? letters.charAt(kind) + "1" : "");
            }
            s.due("nothing against " + paper, withTrunk("0:/" + paper).trunk(0, 4), set);
        }
        DoubtfulTrunks y = withTrunk("0:a3b2c1/");
        y.set(DoubtfulTrunks.TARE, 1);
        s.due("by TARE 1", y.trunk(0, 4), 3);
        y.set(DoubtfulTrunks.TARE, 3);
        s.due("by TARE 3", y.trunk(0, 4), 0);
    }

    private static void trunkOnItsWay() {
        s.of("5 its account, 6 the turn behind which it came (how many turns there were),");
        DoubtfulTrunks x = withTrunk("0:f9/=a1");
        x.set(DoubtfulTrunks.DELAY, 9);
        int[] accounts = {0, 9, 18, 18 + 20, 18 + 20};
        for (int turns = 0; turns < accounts.length; turns++) {
            s.due("the account behind " + turns + " turns", x.trunk(0, 5), accounts[turns]);
            x.turn(1);
        }
        s.due("it came behind no turn", x.trunk(0, 6), 0);
        s.due("another comes", Check.come(x, "0:/"), 1);
        s.due("behind 5 turns", x.trunk(1, 6), 5);
        x.turn(5);
        s.due("and so it stays", x.trunk(1, 6), 5);
        DoubtfulTrunks late = new DoubtfulTrunks();
        Sentences.lastTurn(late);
        Check.come(late, "0:/");
        s.due("behind the last turn", late.trunk(0, 6), 9999);

        s.of("7 where it is: 0 in a queue, 1 it passed unopened, 2 it was opened, 3 it was sent back,");
        int[] where = {2, 1, 0, 0, 0, 3, 0};
        DoubtfulTrunks busy = Sentences.made(Sentences.BUSY);
        for (int trunk = 0; trunk < where.length; trunk++) {
            s.due("where " + trunk + " is", busy.trunk(trunk, 7), where[trunk]);
        }
        DoubtfulTrunks small = withTrunk("0:a1/");
        small.turn(1);
        s.due("one that passed for FEE", small.trunk(0, 7), 1);

        s.of("8 kinds for which it was fined, as a set (0 if it was not opened),");
        String[] hidden = {"", "a1", "f1", "a1f1", "a1b1d1e1f1"};
        int[] sets = {0, 1, 32, 33, 1 + 2 + 8 + 16 + 32};
        for (int i = 0; i < hidden.length; i++) {
            DoubtfulTrunks opened = withTrunk("0:c9/=" + hidden[i]);
            opened.turn(2);
            s.due("with " + hidden[i] + " in it, in a queue", opened.trunk(0, 8), 0);
            opened.turn(1);
            s.due("with " + hidden[i] + " in it, opened", opened.trunk(0, 8), sets[i]);
            DoubtfulTrunks passed = withTrunk("0:/=" + hidden[i]);
            passed.turn(1);
            s.due("with " + hidden[i] + " in it, passed unopened", passed.trunk(0, 8), 0);
            DoubtfulTrunks back = withTrunk("0:c9/=" + hidden[i]);
            back.turn(2);
            back.sendBack(0);
            s.due("with " + hidden[i] + " in it, sent back", back.trunk(0, 8), 0);
        }

        s.of("9 how often it was handed on");
        DoubtfulTrunks z = withTrunk("0:f9/");
        Check.come(z, "0:f9/");
        z.hands(0, 2);
        z.hands(1, 2);
        z.hands(2, 2);
        int[] first = {0, 1, 2, 2, 2};
        int[] second = {0, 1, 2, 2, 2};
        for (int turns = 0; turns < first.length; turns++) {
            s.due("the first behind " + turns + " turns", z.trunk(0, 9), first[turns]);
            s.due("the second, which goes back once", z.trunk(1, 9), second[turns]);
            z.turn(1);
        }
        DoubtfulTrunks y = withTrunk("0:/");
        y.turn(1);
        s.due("one that passed at the desk 0", y.trunk(0, 9), 0);
    }

    private static void trunkAnswers() {
        s.of("Returns the number; NO_SUCH if no such trunk came; BAD_VALUE if what is out of range.");
        s.range("the trunk", Sentences.BUSY, 0, 6, (x, trunk) -> x.trunk(trunk, 0), NO_SUCH);
        s.range("of 16, the trunk", x -> Sentences.fullQueues(x, ""), 0, 15,
                (x, trunk) -> x.trunk(trunk, 0), NO_SUCH);
        s.range("of 64, the trunk", x -> Sentences.allCame(x, ""), 0, 63,
                (x, trunk) -> x.trunk(trunk, 0), NO_SUCH);
        s.refused("of none, trunk(0, 0)", Sentences.NEW, x -> x.trunk(0, 0), NO_SUCH);
        for (int trunk = 0; trunk < 7; trunk++) {
            int of = trunk;
            s.range("of " + of + ", what", Sentences.BUSY, 0, 9, (x, what) -> x.trunk(of, what), BAD_VALUE);
        }
        for (int what = 0; what <= 9; what++) {
            int of = what;
            s.changesNothing("trunk(3, " + what + ")", Sentences.BUSY, x -> x.trunk(3, of));
            s.refused("trunk(7, " + what + ")", Sentences.BUSY, x -> x.trunk(7, of), NO_SUCH);
        }
    }

    // ---- pieces, alike

    private static void pieces() {
        s.of("`paper`: 0 by the upper paper, 1 by the lower one, 2 in truth");
        DoubtfulTrunks x = withTrunk("0:a9b8c7d6e5f4/a1c2e3=b1d2f9");
        String[] papers = {"987654", "102030", "010209"};
        for (int paper = 0; paper < 3; paper++) {
            for (int kind = 0; kind < 6; kind++) {
                int due = papers[paper].charAt(kind) - '0';
                s.due("pieces(0, " + paper + ", " + kind + ")", x.pieces(0, paper, kind), due);
            }
        }

        s.of("Returns the pieces; NO_SUCH if no such trunk came, or there is no such kind;"
                + " BAD_VALUE if paper is not 0 to 2.");
        s.range("the trunk", Sentences.BUSY, 0, 6, (y, trunk) -> y.pieces(trunk, 0, 0), NO_SUCH);
        s.range("of 64, the trunk", y -> Sentences.allCame(y, ""), 0, 63,
                (y, trunk) -> y.pieces(trunk, 2, 5), NO_SUCH);
        s.refused("of none, pieces(0, 0, 0)", Sentences.NEW, y -> y.pieces(0, 0, 0), NO_SUCH);
        for (int paper = 0; paper < 3; paper++) {
            int of = paper;
            s.range("the kind", Sentences.BUSY, 0, 5, (y, kind) -> y.pieces(0, of, kind), NO_SUCH);
        }
        for (int kind = 0; kind < 6; kind++) {
            int of = kind;
            s.range("the paper", Sentences.BUSY, 0, 2, (y, paper) -> y.pieces(6, paper, of), BAD_VALUE);
            s.changesNothing("pieces(6, 2, " + kind + ")", Sentences.BUSY, y -> y.pieces(6, 2, of));
        }
        DoubtfulTrunks busy = Sentences.made(Sentences.BUSY);
        s.due("of one that was opened", busy.pieces(0, 0, 5), 9);
        s.due("of one that was opened, in truth", busy.pieces(0, 2, 1), 1);
        s.due("of one that was sent back", busy.pieces(5, 0, 1), 9);
        s.due("the most", busy.pieces(3, 2, 5), 9);
        s.due("none", busy.pieces(3, 2, 3), 0);
    }

    private static void alike() {
        s.of("`way`: 0 told kind by kind, 1 told by sums: by the sum of what differs beyond TARE");
        s.range("the way", Sentences.BUSY, 0, 1, (x, way) -> x.alike(2, way), BAD_VALUE);
        for (int tare = 0; tare <= 9; tare++) {
            DoubtfulTrunks x = new DoubtfulTrunks();
            x.set(DoubtfulTrunks.TARE, tare);
            Check.come(x, "0:a9/");
            Check.come(x, "0:a3b3c3d3e3f3/");
            Check.come(x, "0:f2/a2");
            Check.come(x, "0:/f1");
            Check.come(x, "0:b4/b4=c9");
            int[] greatest = {9, 3, 2, 1, 0};
            for (int trunk = 0; trunk < greatest.length; trunk++) {
                for (int way = 0; way < 2; way++) {
                    s.due("TARE " + tare + ", a difference of " + greatest[trunk] + ", way " + way,
                            x.alike(trunk, way), greatest[trunk] > tare ? 0 : 1);
                }
            }
        }

        s.of("Returns 1 if they are, otherwise 0 (the same by both ways); NO_SUCH if no such trunk came;"
                + " BAD_VALUE if way is neither 0 nor 1.");
        DoubtfulTrunks busy = Sentences.made(Sentences.BUSY);
        for (int trunk = 0; trunk < 7; trunk++) {
            for (int way = 0; way < 2; way++) {
                s.due("alike(" + trunk + ", " + way + ")", busy.alike(trunk, way), trunk == 1 ? 1 : 0);
            }
        }
        for (int way = 0; way < 2; way++) {
            int of = way;
            s.range("the trunk", Sentences.BUSY, 0, 6, (x, trunk) -> x.alike(trunk, of), NO_SUCH);
            s.range("of 64, the trunk", x -> Sentences.allCame(x, ""), 0, 63,
                    (x, trunk) -> x.alike(trunk, of), NO_SUCH);
            s.refused("of none, alike(0, " + way + ")", Sentences.NEW, x -> x.alike(0, of), NO_SUCH);
            s.changesNothing("alike(3, " + way + ")", Sentences.BUSY, x -> x.alike(3, of));
        }
        s.range("of one that is gone, the way", Sentences.BUSY, 0, 1, (x, way) -> x.alike(0, way), BAD_VALUE);
    }

    // ---- desk

    private static void desk() {
        s.of("0 its hands, 1 trunks in its queue, 2 the doubts of these, together,");
        int[][] busy = {{2, 2, 27 + 1 + 4 + 9 + 4}, {1, 1, 36 + 4}, {1, 1, 45 + 6}};
        DoubtfulTrunks x = Sentences.made(Sentences.BUSY);
        for (int desk = 0; desk < 3; desk++) {
            for (int what = 0; what <= 2; what++) {
                s.due("desk(" + desk + ", " + what + ")", x.desk(desk, what), busy[desk][what]);
                s.due("without trunks", new DoubtfulTrunks().desk(desk, what), what == 0 ? 1 : 0);
            }
        }
        DoubtfulTrunks full = new DoubtfulTrunks();
        Sentences.fullQueues(full, "");
        s.due("16 trunks in a queue", full.desk(0, 1), 16);
        s.due("16 doubts", full.desk(0, 2), 16 * 5);
        full.mend(15, 0, 0, 0);
        s.due("15 doubts and an alike one", full.desk(0, 2), 15 * 5);

        s.of("Returns the number; NO_SUCH if there is no such desk; BAD_VALUE if what is out of range.");
        for (int what = 0; what <= 4; what++) {
            int of = what;
            s.range("the desk", Sentences.BUSY, 0, 2, (y, desk) -> y.desk(desk, of), NO_SUCH);
        }
        for (int desk = 0; desk < 3; desk++) {
            int of = desk;
            s.range("of " + desk + ", what", Sentences.BUSY, 0, 4, (y, what) -> y.desk(of, what), BAD_VALUE);
            for (int what = 0; what <= 4; what++) {
                int asked = what;
                s.changesNothing("desk(" + desk + ", " + what + ")", Sentences.BUSY, y -> y.desk(of, asked));
            }
        }
    }

    private static void deskOverTime() {
        s.of("3 how often it looked at a trunk so far (also at one that went back),"
                + " 4 trunks that passed at it so far, opened or not");
        DoubtfulTrunks x = new DoubtfulTrunks();
        x.hands(2, 3);
        x.hands(1, 3);
        x.hands(0, 3);
        Check.come(x, "0:f9/");
        Check.come(x, "0:f8/");
        Check.come(x, "0:/");
        Check.come(x, "0:b8/");
        Check.come(x, "0:a1/");
        int[][] looks = {{0, 0, 0}, {3, 0, 0}, {5, 2, 0}, {5, 3, 2}, {5, 3, 3}, {5, 3, 3}};
        int[][] passes = {{0, 0, 0}, {1, 0, 0}, {2, 0, 0}, {2, 1, 1}, {2, 1, 2}, {2, 1, 2}};
        for (int turns = 0; turns < looks.length; turns++) {
            for (int desk = 0; desk < 3; desk++) {
                s.due("looks of " + desk + " behind " + turns + " turns", x.desk(desk, 3), looks[turns][desk]);
                s.due("passes of " + desk + " behind " + turns + " turns", x.desk(desk, 4), passes[turns][desk]);
            }
            x.turn(1);
        }
        Check.come(x, "0:/");
        x.sendBack(5);
        s.due("one sent back is not looked at", x.desk(0, 3), 5);
        s.due("nor did it pass", x.desk(0, 4), 2);
    }

    // ---- count

    private static void countOfWhatThereIs() {
        s.of("0 to 5 the settings, 6 the turns, 7 trunks that came, 8 trunks in queues,");
        DoubtfulTrunks x = Sentences.made(Sentences.BUSY);
        int[] busy = {3, 5, 30, 1, 0, 1, 4, 7, 4};
        int[] first = {10, 5, 20, 1, 0, 1, 0, 0, 0};
        for (int what = 0; what <= 8; what++) {
            s.due("count(" + what + ")", x.count(what), busy[what]);
            s.due("of a new object, count(" + what + ")", new DoubtfulTrunks().count(what), first[what]);
        }
        DoubtfulTrunks all = new DoubtfulTrunks();
        Sentences.allCame(all, "");
        s.due("all that can come", all.count(7), 64);
        s.due("none in a queue", all.count(8), 0);
        DoubtfulTrunks full = new DoubtfulTrunks();
        Sentences.fullQueues(full, "");
        s.due("full queues", full.count(8), 16);
        DoubtfulTrunks last = new DoubtfulTrunks();
        Sentences.lastTurn(last);
        s.due("the last turn", last.count(6), 9999);

        s.of("9 those that passed unopened so far, 10 opened so far, 11 sent back so far,");
        DoubtfulTrunks y = new DoubtfulTrunks();
        String[] texts = {"0:/", "0:a1/", "0:f9/", "0:f9/", "0:f9/"};
        int[][] due = {{0, 0, 0}, {1, 0, 0}, {2, 0, 0}, {2, 0, 1}, {2, 0, 1}, {2, 1, 1}, {2, 2, 1}, {2, 2, 1}};
        for (String text : texts) {
            Check.come(y, text);
        }
        for (int turns = 0; turns < due.length; turns++) {
            for (int what = 9; what <= 11; what++) {
                s.due("behind " + turns + " turns, count(" + what + ")", y.count(what), due[turns][what - 9]);
            }
            y.turn(1);
            if (turns == 2) {
                y.sendBack(4);
            }
        }
        s.due("64 passed", all.count(9), 64);

        s.of("Returns the number; BAD_VALUE if what is out of range.");
        s.range("what", Sentences.BUSY, 0, 18, (z, what) -> z.count(what), BAD_VALUE);
        s.range("of a new object, what", Sentences.NEW, 0, 18, (z, what) -> z.count(what), BAD_VALUE);
        for (int what = 0; what <= 18; what++) {
            int of = what;
            s.changesNothing("count(" + what + ")", Sentences.BUSY, z -> z.count(of));
        }
    }

    private static void countOfWhatWasTaken() {
        s.of("12 fees so far (FEE), 13 fines so far, 14 what was taken for delay so far, 15 all accounts, together,");
        DoubtfulTrunks x = new DoubtfulTrunks();
        x.set(DoubtfulTrunks.FEE, 7);
        x.set(DoubtfulTrunks.DELAY, 2);
        Check.come(x, "0:a1/");
        Check.come(x, "0:f9/=a1b1");
        Check.come(x, "0:a1/");
        Check.come(x, "0:/");
        Check.come(x, "0:/");
        int[][] due = {{0, 0, 0}, {7, 0, 8}, {7, 0, 16}, {14, 0, 22}, {14, 40, 22}, {14, 40, 22}};
        for (int turns = 0; turns < due.length; turns++) {
            for (int what = 12; what <= 14; what++) {
                s.due("behind " + turns + " turns, count(" + what + ")", x.count(what), due[turns][what - 12]);
            }
            s.due("all together", x.count(15), due[turns][0] + due[turns][1] + due[turns][2]);
            int accounts = 0;
            for (int trunk = 0; trunk < 5; trunk++) {
                accounts += x.trunk(trunk, 5);
            }
            s.due("all accounts", x.count(15), accounts);
            x.turn(1);
            if (turns == 2) {
                x.sendBack(4);
            }
        }
        DoubtfulTrunks most = new DoubtfulTrunks();
        most.set(DoubtfulTrunks.DELAY, 20);
        most.hands(0, 0);
        Sentences.fullQueues(most, "");
        Sentences.lastTurn(most);
        s.due("the most turns with the most trunks and the greatest DELAY", most.count(14), 9999 * 16 * 20);
        s.due("all accounts then", most.count(15), 9999 * 16 * 20);
        s.due("an account then", most.trunk(15, 5), 9999 * 20);

        s.of("16 trunks that were opened and not fined so far,");
        DoubtfulTrunks y = new DoubtfulTrunks();
        y.set(DoubtfulTrunks.FINE, 0);
        Check.come(y, "0:f9/");
        Check.come(y, "0:f9/=a1");
        Check.come(y, "0:f9/=");
        Check.come(y, "0:/=a1");
        int[] unfined = {0, 0, 0, 1, 1, 2, 2};
        for (int turns = 0; turns < unfined.length; turns++) {
            s.due("behind " + turns + " turns", y.count(16), unfined[turns]);
            y.turn(1);
        }
    }

    private static void countOfThePadAndHistory() {
        s.of("17 the length of the pad, 18 how many changes can be undone");
        DoubtfulTrunks x = new DoubtfulTrunks();
        for (int length = 0; length <= 60; length++) {
            s.due("the pad of " + length, x.count(17), length);
            x.put('0');
        }
        s.due("no more than 60", x.count(17), 60);
        x.wipe();
        s.due("wiped", x.count(17), 0);
        for (int changes = 0; changes <= 6; changes++) {
            s.due("behind " + changes + " changes", x.count(18), Math.min(4, changes));
            x.set(0, changes);
        }
        for (int left = 3; left >= 0; left--) {
            x.undo();
            s.due("left to undo", x.count(18), left);
        }
        x.undo();
        s.due("none is left", x.count(18), 0);
    }
}
