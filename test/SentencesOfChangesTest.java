/** The sentences of the promises 1 to 9 that name a boundary case: a new object, and the changes. */
public final class SentencesOfChangesTest {
    private static final int NO_SUCH = -1, BAD_VALUE = -2, BAD_TEXT = -3, TOO_MANY = -4, NONE = -6;
    private static final int[] GONE = {0, 1, 5};
    private static final int[] WAITING = {2, 3, 4, 6};

    private static final Sentences s = new Sentences("SentencesOfChanges");

    public static void main(String[] args) {
        newObject();
        set();
        weight();
        trust();
        hands();
        read();
        mend();
        sendBack();
        turn();
        s.finish();
    }

    private static void newObject() {
        s.of("Creates desks without trunks, at the turn 0.");
        DoubtfulTrunks x = new DoubtfulTrunks();
        int[] settings = {10, 5, 20, 1, 0, 1};
        for (int what = 0; what <= 18; what++) {
            s.due("count(" + what + ")", x.count(what), what < 6 ? settings[what] : 0);
        }
        for (int desk = 0; desk < 3; desk++) {
            for (int what = 0; what <= 4; what++) {
                s.due("desk(" + desk + ", " + what + ")", x.desk(desk, what), what == 0 ? 1 : 0);
            }
        }
        s.due("trunk(0, 0)", x.trunk(0, 0), NO_SUCH);
        s.due("mostDoubted()", x.mostDoubted(), NONE);
        s.due("fault()", x.fault(), 0);
        s.due("undo()", x.undo(), DoubtfulTrunks.NOT_POSSIBLE);
        s.due("restore(0)", x.restore(0), DoubtfulTrunks.NOT_POSSIBLE);
        s.due("restore(1)", x.restore(1), DoubtfulTrunks.NOT_POSSIBLE);
        Sentences.made(Sentences.BUSY);
        s.due("another object's trunks are not in it", x.count(7), 0);
    }

    private static void set() {
        s.of("Changes a setting. This is a change.");
        for (int setting = 0; setting < 6; setting++) {
            int of = setting;
            s.isChange("set(" + of + ", 2)", Sentences.NEW, x -> x.set(of, 2));
            s.isChange("set(" + of + ", 3)", Sentences.BUSY, x -> x.set(of, 3));
            DoubtfulTrunks x = new DoubtfulTrunks();
            x.set(of, 4);
            for (int other = 0; other < 6; other++) {
                int due = other == of ? 4 : new DoubtfulTrunks().count(other);
                s.due("set(" + of + ", 4), then count(" + other + ")", x.count(other), due);
            }
        }

        s.of("Returns the previous value; BAD_VALUE if there is no such setting, or value is out of its range.");
        int[] least = {0, 0, 0, 0, 0, 1};
        int[] most = {200, 50, 90, 20, 9, 4};
        int[] first = {10, 5, 20, 1, 0, 1};
        s.range("the setting", Sentences.BUSY, 0, 5, (x, setting) -> x.set(setting, 1), BAD_VALUE);
        DoubtfulTrunks x = new DoubtfulTrunks();
        for (int setting = 0; setting < 6; setting++) {
            int of = setting;
            s.range("the setting " + of, Sentences.BUSY, least[of], most[of], (y, n) -> y.set(of, n), BAD_VALUE);
            s.due("set(" + of + ") to the least", x.set(of, least[of]), first[of]);
            s.due("set(" + of + ") to the greatest", x.set(of, most[of]), least[of]);
            s.due("set(" + of + ") to the greatest again", x.set(of, most[of]), most[of]);
            s.due("set(" + of + ") refused", x.set(of, most[of] + 1), BAD_VALUE);
            s.due("set(" + of + ") back", x.set(of, first[of]), most[of]);
        }
    }

    private static void weight() {
        s.of("Changes the weight of a kind. This is a change.");
        s.isChange("weight(0, 9)", Sentences.NEW, x -> x.weight(0, 9));
        s.isChange("weight(5, 1)", Sentences.BUSY, x -> x.weight(5, 1));
        for (int kind = 0; kind < 6; kind++) {
            DoubtfulTrunks x = new DoubtfulTrunks();
            x.weight(kind, 9);
            for (int other = 0; other < 6; other++) {
                int due = other == kind ? 9 : other + 1;
                s.due("weight(" + kind + ", 9), then of " + other, x.weight(other, 1), due);
            }
        }

        s.of("`weight`: 1 to 9");
        s.range("weight", Sentences.NEW, 1, 9, (x, weight) -> x.weight(0, weight), BAD_VALUE);

        s.of("Returns the previous one; NO_SUCH if there is no such kind; BAD_VALUE if weight is out of range.");
        for (int kind = 0; kind < 6; kind++) {
            int of = kind;
            s.range("the weight of " + of, Sentences.BUSY, 1, 9, (x, weight) -> x.weight(of, weight), BAD_VALUE);
            DoubtfulTrunks x = new DoubtfulTrunks();
            s.due("weight(" + of + ", 1)", x.weight(of, 1), of + 1);
            s.due("weight(" + of + ", 9)", x.weight(of, 9), 1);
            s.due("weight(" + of + ", 9) again", x.weight(of, 9), 9);
            s.due("weight(" + of + ", 10)", x.weight(of, 10), BAD_VALUE);
            s.due("weight(" + of + ", 2)", x.weight(of, 2), 9);
        }
        s.range("the kind", Sentences.BUSY, 0, 5, (x, kind) -> x.weight(kind, 5), NO_SUCH);
    }

    private static void trust() {
        s.of("Changes the trust of a country. This is a change.");
        s.isChange("trust(0, 9)", Sentences.NEW, x -> x.trust(0, 9));
        s.isChange("trust(4, 0)", Sentences.BUSY, x -> x.trust(4, 0));
        for (int country = 0; country < 5; country++) {
            DoubtfulTrunks x = new DoubtfulTrunks();
            x.trust(country, 9);
            for (int other = 0; other < 5; other++) {
                int due = other == country ? 9 : 5;
                s.due("trust(" + country + ", 9), then of " + other, x.trust(other, 1), due);
            }
        }

        s.of("`trust`: 0 to 9");
        s.range("trust", Sentences.NEW, 0, 9, (x, trust) -> x.trust(0, trust), BAD_VALUE);

        s.of("Returns the previous one; NO_SUCH if there is no such country; BAD_VALUE if trust is out of range.");
        for (int country = 0; country < 5; country++) {
            int of = country;
            s.range("the trust of " + of, Sentences.BUSY, 0, 9, (x, trust) -> x.trust(of, trust), BAD_VALUE);
            DoubtfulTrunks x = new DoubtfulTrunks();
            s.due("trust(" + of + ", 0)", x.trust(of, 0), 5);
            s.due("trust(" + of + ", 9)", x.trust(of, 9), 0);
            s.due("trust(" + of + ", 9) again", x.trust(of, 9), 9);
            s.due("trust(" + of + ", 10)", x.trust(of, 10), BAD_VALUE);
            s.due("trust(" + of + ", 2)", x.trust(of, 2), 9);
        }
        s.range("the country", Sentences.BUSY, 0, 4, (x, country) -> x.trust(country, 5), NO_SUCH);
    }

    private static void hands() {
        s.of("Changes the hands of a desk. This is a change.");
        s.isChange("hands(0, 0)", Sentences.NEW, x -> x.hands(0, 0));
        s.isChange("hands(2, 3)", Sentences.BUSY, x -> x.hands(2, 3));
        for (int desk = 0; desk < 3; desk++) {
            DoubtfulTrunks x = new DoubtfulTrunks();
            x.hands(desk, 3);
            for (int other = 0; other < 3; other++) {
                s.due("hands(" + desk + ", 3), then of " + other, x.desk(other, 0), other == desk ? 3 : 1);
            }
        }

        s.of("`hands`: 0 to 3");
        s.range("hands", Sentences.NEW, 0, 3, (x, hands) -> x.hands(0, hands), BAD_VALUE);

        s.of("Returns the previous ones; NO_SUCH if there is no such desk; BAD_VALUE if hands is out of range.");
        for (int desk = 0; desk < 3; desk++) {
            int of = desk;
            s.range("the hands of " + of, Sentences.BUSY, 0, 3, (x, hands) -> x.hands(of, hands), BAD_VALUE);
            DoubtfulTrunks x = new DoubtfulTrunks();
            s.due("hands(" + of + ", 0)", x.hands(of, 0), 1);
            s.due("hands(" + of + ", 3)", x.hands(of, 3), 0);
            s.due("hands(" + of + ", 3) again", x.hands(of, 3), 3);
            s.due("hands(" + of + ", 4)", x.hands(of, 4), BAD_VALUE);
            s.due("hands(" + of + ", 2)", x.hands(of, 2), 3);
        }
        s.range("the desk", Sentences.BUSY, 0, 2, (x, desk) -> x.hands(desk, 3), NO_SUCH);
    }

    private static void read() {
        s.of("The trunk of the pad comes, and the pad is emptied. This is a change.");
        s.isChange("read() of the first", x -> Check.put(x, "0:a1/"), DoubtfulTrunks::read);
        s.isChange("read() of one more", Sentences.BUSY, DoubtfulTrunks::read);
        DoubtfulTrunks x = Sentences.made(Sentences.BUSY);
        x.read();
        s.due("the length of the pad", x.count(17), 0);
        s.due("the fault of the pad", x.fault(), 0);
        s.due("it came", x.count(7), 8);
        s.due("its country", x.trunk(7, 0), 3);
        s.due("its desk", x.trunk(7, 1), 0);
        s.due("its place, the last", x.trunk(7, 2), 2);
        s.due("the upper paper", x.pieces(7, 0, 1), 2);
        s.due("the lower paper", x.pieces(7, 1, 2), 1);
        s.due("in truth", x.pieces(7, 2, 1), 2);
        s.due("none is told any more", x.read(), BAD_TEXT);

        s.of("Returns its number; BAD_TEXT if the pad has a fault;"
                + " TOO_MANY if there are 16 in the queues, or 64 came.");
        DoubtfulTrunks y = new DoubtfulTrunks();
        for (int trunk = 0; trunk < 16; trunk++) {
            s.due("the number", Check.come(y, "0:a1/"), trunk);
        }
        String[] faulty = {"", "0", "0:", "0:a", "0:/a", "0:/=a", "5:/", "0:/x", "0:/=/", "0:g1/"};
        for (String text : faulty) {
            s.refused("read of \"" + text + "\"", x1 -> putAnew(x1, text), DoubtfulTrunks::read, BAD_TEXT);
        }
        s.refused("read of the 17th", z -> Sentences.fullQueues(z, "0:/"), DoubtfulTrunks::read, TOO_MANY);
        s.refused("read of the 65th", z -> Sentences.allCame(z, "0:/"), DoubtfulTrunks::read, TOO_MANY);
        DoubtfulTrunks last = new DoubtfulTrunks();
        Sentences.allCame(last, "0:/");
        last.undo();
        last.undo();
        s.due("63 came", last.count(7), 63);
        s.due("the number of the 64th", last.read(), 63);
    }

    private static void putAnew(DoubtfulTrunks x, String text) {
        Sentences.BUSY.play(x);
        x.wipe();
        Check.put(x, text);
    }

    private static void mend() {
        s.of("Mends a paper of a trunk that is in a queue: changes how many pieces of a kind it declares."
                + " This is a change.");
        for (int trunk : WAITING) {
            s.isChange("mend(" + trunk + ", 0, 5, 7)", Sentences.BUSY, x -> x.mend(trunk, 0, 5, 7));
            s.isChange("mend(" + trunk + ", 1, 0, 7)", Sentences.BUSY, x -> x.mend(trunk, 1, 0, 7));
        }
        for (int paper = 0; paper < 2; paper++) {
            for (int kind = 0; kind < 6; kind++) {
                mendOne(paper, kind);
            }
        }

        s.of("`paper`: 0 the upper one, 1 the lower one");
        s.range("the paper", Sentences.BUSY, 0, 1, (x, paper) -> x.mend(2, paper, 0, 5), BAD_VALUE);

        s.of("`pieces`: 0 to 9");
        s.range("the pieces", Sentences.BUSY, 0, 9, (x, pieces) -> x.mend(2, 0, 0, pieces), BAD_VALUE);

        s.of("Returns the doubt of the trunk then; NO_SUCH if there is no such trunk in a queue, or no such kind;"
                + " BAD_VALUE if paper or pieces is out of range.");
        DoubtfulTrunks x = Sentences.made(Sentences.BUSY);
        s.due("the doubt of e9 against nothing, before", x.trunk(2, 3), 45 + 6);
        s.due("mended to the greatest difference", x.mend(2, 1, 0, 9), 45 + 9 + 6);
        s.due("mended to less", x.mend(2, 0, 4, 1), 5 + 9 + 6);
        s.due("mended to one kind", x.mend(2, 1, 0, 0), 5 + 6);
        s.due("mended to alike ones", x.mend(2, 0, 4, 0), 0);
        x.set(DoubtfulTrunks.TARE, 2);
        s.due("mended to a difference of TARE", x.mend(2, 0, 4, 2), 0);
        s.due("mended to more than TARE", x.mend(2, 0, 4, 3), 15 + 6);
        for (int trunk : GONE) {
            s.refused("mend of the gone " + trunk, Sentences.BUSY, y -> y.mend(trunk, 0, 0, 1), NO_SUCH);
        }
        s.range("the trunk", Sentences.BUSY, 2, 6, (y, trunk) -> y.mend(trunk, 0, 0, 1), NO_SUCH);
        s.range("the only trunk", z -> Check.come(z, "0:/"), 0, 0, (z, trunk) -> z.mend(trunk, 0, 0, 1), NO_SUCH);
        s.range("the kind", Sentences.BUSY, 0, 5, (y, kind) -> y.mend(2, 0, kind, 1), NO_SUCH);
        s.range("the last of 16", z -> Sentences.fullQueues(z, ""), 0, 15,
                (z, trunk) -> z.mend(trunk, 0, 0, 1), NO_SUCH);
    }

    /** A kind of a paper is mended from 0 to 9 and back, and nothing else is. */
    private static void mendOne(int paper, int kind) {
        DoubtfulTrunks x = new DoubtfulTrunks();
        Check.come(x, "0:a5b5c5d5e5f5/a5b5c5d5e5f5");
        Check.come(x, "0:a5b5c5d5e5f5/a5b5c5d5e5f5");
        for (int pieces : new int[] {0, 9, 5, 1}) {
            x.mend(0, paper, kind, pieces);
            for (int each = 0; each < 3; each++) {
                for (int other = 0; other < 6; other++) {
                    int due = each == paper && other == kind ? pieces : 5;
                    String call = "mend(0, " + paper + ", " + kind + ", " + pieces + "), then pieces(0, ";
                    s.due(call + each + ", " + other + ")", x.pieces(0, each, other), due);
                }
            }
            s.due("the other trunk", x.trunk(1, 4), 0);
        }
    }

    private static void sendBack() {
        s.of("Sends a trunk back: it goes away, and nothing more is taken for it. This is a change.");
        for (int trunk : WAITING) {
            s.isChange("sendBack(" + trunk + ")", Sentences.BUSY, x -> x.sendBack(trunk));
            DoubtfulTrunks x = Sentences.made(Sentences.BUSY);
            int account = x.trunk(trunk, 5);
            int delays = x.count(14);
            x.sendBack(trunk);
            s.due("it stands at no desk", x.trunk(trunk, 1), NONE);
            s.due("it stands at no place", x.trunk(trunk, 2), NONE);
            s.due("it was sent back", x.trunk(trunk, 7), 3);
            s.due("three are left", x.count(8), 3);
            s.due("what was taken stays", x.count(14), delays);
            x.turn(20);
            s.due("nothing more is taken for it", x.trunk(trunk, 5), account);
            s.due("it did not pass", x.trunk(trunk, 7), 3);
        }
        for (int place = 0; place < 16; place++) {
            DoubtfulTrunks x = new DoubtfulTrunks();
            Sentences.fullQueues(x, "");
            x.sendBack(place);
            for (int trunk = 0; trunk < 16; trunk++) {
                int due = trunk == place ? NONE : trunk < place ? trunk : trunk - 1;
                s.due("sent back from the place " + place + ", the place of " + trunk, x.trunk(trunk, 2), due);
            }
        }

        s.of("Returns its account; NO_SUCH if there is no such trunk in a queue.");
        DoubtfulTrunks x = new DoubtfulTrunks();
        Check.come(x, "0:f9/");
        Check.come(x, "0:f9/");
        s.due("nothing was taken yet", x.sendBack(1), 0);
        x.set(DoubtfulTrunks.DELAY, 20);
        x.turn(2);
        s.due("two delays", x.sendBack(0), 40);
        for (int trunk : GONE) {
            s.refused("sendBack of the gone " + trunk, Sentences.BUSY, y -> y.sendBack(trunk), NO_SUCH);
        }
        s.range("the trunk", Sentences.BUSY, 2, 6, (y, trunk) -> y.sendBack(trunk), NO_SUCH);
        s.range("the only trunk", z -> Check.come(z, "0:/"), 0, 0, (z, trunk) -> z.sendBack(trunk), NO_SUCH);
        s.refused("sendBack(0), none came", Sentences.NEW, z -> z.sendBack(0), NO_SUCH);
        s.refused("sendBack(63), all passed", z -> Sentences.allCame(z, ""), z -> z.sendBack(63), NO_SUCH);
        s.refused("sendBack(64), 64 came", z -> Sentences.allCame(z, ""), z -> z.sendBack(64), NO_SUCH);
    }

    private static void turn() {
        s.of("Makes turns. This is a change.");
        s.isChange("turn(1)", Sentences.NEW, x -> x.turn(1));
        s.isChange("turn(1)", Sentences.BUSY, x -> x.turn(1));
        s.isChange("turn(99)", Sentences.BUSY, x -> x.turn(99));

        s.of("`turns`: 1 to 99");
        s.range("turns", Sentences.BUSY, 1, 99, (x, turns) -> x.turn(turns), BAD_VALUE);
        DoubtfulTrunks x = new DoubtfulTrunks();
        x.turn(1);
        s.due("the least", x.count(6), 1);
        x.turn(99);
        s.due("the greatest", x.count(6), 100);

        s.of("Returns how many trunks pass in them; BAD_VALUE if turns is out of range;"
                + " TOO_MANY if the turns would be above 9999.");
        DoubtfulTrunks y = new DoubtfulTrunks();
        s.due("no trunk", y.turn(99), 0);
        Sentences.fullQueues(y, "");
        y.hands(0, 0);
        s.due("none, without hands", y.turn(99), 0);
        y.hands(0, 1);
        s.due("all but the last", y.turn(15), 15);
        s.due("the last", y.turn(1), 1);
        s.due("none is left", y.turn(1), 0);
        Check.come(y, "0:f9/");
        Check.come(y, "0:f9/");
        Check.come(y, "0:/");
        y.sendBack(17);
        s.due("sent back ones don't count", y.turn(2), 1);
        s.due("opened ones do", y.turn(99), 1);
        for (int before = 9899; before <= 9902; before++) {
            int from = before;
            int room = 9999 - from;
            if (room >= 99) {
                s.due("from " + from + ", turn(99)", atTurn(from).turn(99), 0);
            } else {
                s.due("from " + from + ", turn(" + room + ")", atTurn(from).turn(room), 0);
                s.refused("from " + from + ", turn(" + (room + 1) + ")", z -> turnTo(z, from),
                        z -> z.turn(room + 1), TOO_MANY);
                s.refused("from " + from + ", turn(99)", z -> turnTo(z, from), z -> z.turn(99), TOO_MANY);
            }
        }
        s.due("from 9998, turn(1)", atTurn(9998).turn(1), 0);
        s.refused("from 9998, turn(2)", z -> turnTo(z, 9998), z -> z.turn(2), TOO_MANY);
        s.refused("from 9999, turn(1)", z -> turnTo(z, 9999), z -> z.turn(1), TOO_MANY);
        s.refused("from 9999, turn(99)", z -> turnTo(z, 9999), z -> z.turn(99), TOO_MANY);
        DoubtfulTrunks last = atTurn(9998);
        last.turn(1);
        s.due("the last turn", last.count(6), 9999);
    }

    /** With a trunk that waits, so that a turn too many would show. */
    private static void turnTo(DoubtfulTrunks x, int turns) {
        x.hands(0, 0);
        Check.come(x, "0:a9/");
        for (int left = turns; left > 0; left -= 99) {
            x.turn(Math.min(99, left));
        }
    }

    private static DoubtfulTrunks atTurn(int turns) {
        return Sentences.made(x -> turnTo(x, turns));
    }
}
