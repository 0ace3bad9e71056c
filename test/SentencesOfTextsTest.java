/** The sentences of "Texts" and of the promises 21 to 23 that name a boundary case. */
public final class SentencesOfTextsTest {
    private static final int BAD_VALUE = -2, BAD_TEXT = -3, TOO_MANY = -4, NONE = -6;
    private static final String LONGEST = "4:a9b8c7d6e5f4/a1b2c3d4e5f6=a7b8c9d1e2f3";

    private static final Sentences s = new Sentences("SentencesOfTexts");

    public static void main(String[] args) {
        sizeOfThePad();
        countries();
        parts();
        papers();
        faults();
        textsThatEndTooEarly();
        put();
        putRefused();
        wipe();
        fault();
        s.finish();
    }

    /** The answer of fault on a new object's pad with this text. */
    private static int faultOf(String text) {
        return Check.faultOf(new DoubtfulTrunks(), text);
    }

    private static void faultIs(String text, int due) {
        s.due("fault of \"" + text + "\"", faultOf(text), due);
    }

    // ---- what a text is

    private static void sizeOfThePad() {
        s.of("The pad is a text of at most 60 characters");
        for (int last = 1; last <= 8; last++) {
            int length = 60 - last;
            DoubtfulTrunks x = new DoubtfulTrunks();
            Check.put(x, "0".repeat(length));
            s.due(last + " more on " + length, x.put(Check.signs("0".repeat(last))), 60);
            s.due("one more on 60", x.put('0'), TOO_MANY);
            int tooMany = Math.min(8, last + 1);
            if (tooMany > last) {
                s.refused(tooMany + " more on " + length, y -> Check.put(y, "0".repeat(length)),
                        y -> y.put(Check.signs("0".repeat(tooMany))), TOO_MANY);
            }
        }
    }

    private static void countries() {
        s.of("text = country \":\" paper \"/\" paper [ \"=\" paper ]: a country is a digit 0 to 4;");
        for (char sign = 33; sign <= 126; sign++) {
            boolean isCountry = sign >= '0' && sign <= '4';
            faultIs(sign + ":/", isCountry ? NONE : 0);
            faultIs("0" + sign + "/", sign == ':' ? NONE : 1);
            DoubtfulTrunks x = new DoubtfulTrunks();
            s.due("read of \"" + sign + ":/\"", Check.come(x, sign + ":/"), isCountry ? 0 : BAD_TEXT);
            s.due("its country", x.trunk(0, 0), isCountry ? sign - '0' : -1);
        }
        faultIs("0:/", NONE);
        faultIs("0:/=", NONE);
        faultIs("0:=/", 2);
        faultIs("00:/", 1);
        faultIs("0/:", 1);
    }

    private static void parts() {
        s.of("a paper is 0 to 6 parts, each a letter a to f (the kind 0 to 5), each above the one before,"
                + " and a digit 1 to 9 (kinds that are not told have 0 pieces);");
        for (char sign = 33; sign <= 126; sign++) {
            boolean isLetter = sign >= 'a' && sign <= 'f';
            boolean isDigit = sign >= '1' && sign <= '9';
            faultIs("0:" + sign + "1/", isLetter ? NONE : sign == '/' ? 3 : 2);
            faultIs("0:/" + sign + "1", isLetter ? NONE : sign == '=' ? 4 : 3);
            faultIs("0:/=" + sign + "1", isLetter ? NONE : 4);
            faultIs("0:c" + sign + "/", isDigit ? NONE : 3);
            faultIs("0:/c" + sign, isDigit ? NONE : 4);
            faultIs("0:/=c" + sign, isDigit ? NONE : 5);
            boolean isAbove = sign > 'c' && sign <= 'f';
            faultIs("0:c1" + sign + "1/", isAbove ? NONE : sign == '/' ? 5 : 4);
            faultIs("0:/c1" + sign + "1", isAbove ? NONE : sign == '=' ? 6 : 5);
            faultIs("0:/=c1" + sign + "1", isAbove ? NONE : 6);
        }
        String six = "a1b2c3d4e5f6";
        for (int parts = 0; parts <= 6; parts++) {
            String paper = six.substring(0, 2 * parts);
            faultIs("0:" + paper + "/", NONE);
            faultIs("0:/" + paper, NONE);
            faultIs("0:/=" + paper, NONE);
            DoubtfulTrunks x = new DoubtfulTrunks();
            Check.come(x, "0:" + paper + "/" + paper + "=" + paper);
            for (int kind = 0; kind < 6; kind++) {
                for (int which = 0; which < 3; which++) {
                    s.due("of " + parts + " parts, the kind " + kind, x.pieces(0, which, kind),
                            kind < parts ? kind + 1 : 0);
                }
            }
        }
        for (char seventh = 'a'; seventh <= 'g'; seventh++) {
            faultIs("0:" + six + seventh + "1/", 14);
            faultIs("0:/" + six + seventh + "1", 15);
            faultIs("0:/=" + six + seventh + "1", 16);
        }
        DoubtfulTrunks x = new DoubtfulTrunks();
        Check.come(x, "0:/a9b8=f7");
        Check.come(x, "0:f1/");
        for (int kind = 0; kind < 6; kind++) {
            s.due("not told behind a longer one, the lower paper", x.pieces(1, 1, kind), 0);
            s.due("in truth, as the upper paper", x.pieces(1, 2, kind), kind == 5 ? 1 : 0);
        }
    }

    private static void papers() {
        s.of("the first paper is the upper one, the second the lower one, the third tells what is in it"
                + " (as the upper paper does, if it is not told)");
        String[] texts = {"0:a1/b2=c3", "0:a1/b2=", "0:a1/b2", "0:/b2", "0:/", "0:/=", LONGEST};
        String[][] due = {{"100000", "020000", "003000"}, {"100000", "020000", "000000"},
            {"100000", "020000", "100000"}, {"000000", "020000", "000000"}, {"000000", "000000", "000000"},
            {"000000", "000000", "000000"}, {"987654", "123456", "789123"}};
        for (int i = 0; i < texts.length; i++) {
            DoubtfulTrunks x = new DoubtfulTrunks();
            s.due("read of " + texts[i], Check.come(x, texts[i]), 0);
            for (int paper = 0; paper < 3; paper++) {
                for (int kind = 0; kind < 6; kind++) {
                    s.due("of " + texts[i] + ", pieces(0, " + paper + ", " + kind + ")",
                            x.pieces(0, paper, kind), due[i][paper].charAt(kind) - '0');
                }
            }
        }
        DoubtfulTrunks mended = new DoubtfulTrunks();
        Check.come(mended, "0:a1/");
        mended.mend(0, 0, 0, 5);
        s.due("what is in it stays when the upper paper is mended", mended.pieces(0, 2, 0), 1);
    }

    // ---- faults

    private static void faults() {
        s.of("The fault is the index of the first character that cannot stand at its place"
                + " when the text is read from left to right;");
        for (int at = 0; at < LONGEST.length(); at++) {
            for (char wrong : new char[] {'!', '~', 'g', '`', ';'}) {
                String text = LONGEST.substring(0, at) + wrong + LONGEST.substring(at + 1);
                faultIs(text, at);
                faultIs(text.substring(0, at + 1), at);
            }
        }
        faultIs(LONGEST + "0", LONGEST.length());
        faultIs(LONGEST + "=", LONGEST.length());
        faultIs("x" + LONGEST, 0);
        faultIs("0:/x", 3);
        faultIs("0:/=x", 4);
        faultIs("0:a0/x", 3);
        faultIs("0".repeat(60), 1);
        faultIs(LONGEST + "!".repeat(60 - LONGEST.length()), LONGEST.length());
        faultIs("5", 0);
        faultIs("0:b1a1", 4);
        faultIs("0:b1b1", 4);
        faultIs("0:f9f", 4);
    }

    private static void textsThatEndTooEarly() {
        s.of("if there is none and the text ends too early (also if it is empty), it is the length of the text");
        faultIs("", 0);
        int slash = LONGEST.indexOf('/');
        int equals = LONGEST.indexOf('=');
        for (int length = 0; length <= LONGEST.length(); length++) {
            int paper = length > equals ? equals : slash;
            boolean isWhole = length > paper && (length - paper) % 2 == 1;
            faultIs(LONGEST.substring(0, length), isWhole ? NONE : length);
        }
        faultIs("0", 1);
        faultIs("0:", 2);
        faultIs("0:a", 3);
        faultIs("0:a1", 4);
        faultIs("0:f1", 4);
        faultIs("0:a1/b", 6);
        faultIs("0:/=f", 5);
    }

    // ---- put, wipe, fault

    private static void put() {
        s.of("its lowest 8 bits are the last character, the next 8 bits the one before, and so on;"
                + " 8 bits that are 0 mean that there are no more characters, and everything above them has to be 0,"
                + " too");
        DoubtfulTrunks x = new DoubtfulTrunks();
        x.put(0x31_3A_61_32_2F_62_33_3DL);
        x.put(0x63_34L);
        s.due("read of \"1:a2/b3=\" and \"c4\"", x.read(), 0);
        s.due("the first character", x.trunk(0, 0), 1);
        s.due("the fourth", x.pieces(0, 0, 0), 2);
        s.due("the seventh", x.pieces(0, 1, 1), 3);
        s.due("the last of the second number", x.pieces(0, 2, 2), 4);
        for (int gap = 1; gap <= 7; gap++) {
            long low = Check.signs("0".repeat(gap));
            s.due(gap + " characters, 0 above", new DoubtfulTrunks().put(low), gap);
            int free = 8 * (gap + 1);
            if (free < 64) {
                for (int bit = free; bit < 64; bit++) {
                    long one = low | 1L << bit;
                    s.refused("a bit above 8 that are 0: " + bit, Sentences.BUSY, y -> y.put(one), BAD_VALUE);
                }
                long more = low | (long) '0' << free;
                s.refused("a character above 8 bits that are 0", Sentences.BUSY, y -> y.put(more), BAD_VALUE);
            }
        }

        s.of("`characters`: 1 to 8 characters");
        for (int count = 1; count <= 8; count++) {
            long signs = Check.signs("0".repeat(count));
            s.due(count + " characters", new DoubtfulTrunks().put(signs), count);
        }
        s.refused("no character", Sentences.BUSY, y -> y.put(0), BAD_VALUE);
        s.isNoChange("put", Sentences.BUSY, y -> y.put('0'));
    }

    private static void putRefused() {
        s.of("Returns the length of the pad then; BAD_VALUE if there is no character, a code is not 33 to 126,"
                + " or a bit above 8 bits that are 0 is not 0; TOO_MANY if the pad would be longer than 60.");
        for (int place = 0; place < 8; place++) {
            for (int code : new int[] {33, 126}) {
                long signs = Check.signs("00000000") & ~(255L << 8 * place) | (long) code << 8 * place;
                s.due("the code " + code + ", " + place + " from the last", new DoubtfulTrunks().put(signs), 8);
            }
            for (int code : new int[] {1, 32, 127, 128, 160, 254, 255}) {
                long signs = Check.signs("00000000") & ~(255L << 8 * place) | (long) code << 8 * place;
                s.refused("the code " + code + ", " + place + " from the last", Sentences.BUSY,
                        x -> x.put(signs), BAD_VALUE);
                long alone = (long) code << 8 * place;
                s.refused("the code " + code + " alone, " + place + " from the last", Sentences.BUSY,
                        x -> x.put(alone), BAD_VALUE);
            }
        }
        for (long number : new long[] {0, -1, Long.MIN_VALUE, Long.MAX_VALUE, 1L << 32 | '0', 0x3000}) {
            s.refused("put(" + number + ")", Sentences.BUSY, x -> x.put(number), BAD_VALUE);
        }
        DoubtfulTrunks x = new DoubtfulTrunks();
        for (int length = 1; length <= 60; length++) {
            s.due("the length", x.put('0'), length);
        }
        s.refused("one on 60", Sentences::fullPad, y -> y.put('0'), TOO_MANY);
        s.refused("eight on 60", Sentences::fullPad, y -> y.put(Check.signs("00000000")), TOO_MANY);
        s.refused("eight on 53", y -> Check.put(y, "0".repeat(53)), y -> y.put(Check.signs("00000000")), TOO_MANY);
        s.due("what was put stays as it was", faultOf("0:/" + "a".repeat(57)), 4);
    }

    private static void wipe() {
        s.of("Empties the pad, and returns the length that it had.");
        for (int length : new int[] {0, 1, 8, 59, 60}) {
            DoubtfulTrunks x = new DoubtfulTrunks();
            Check.put(x, "0".repeat(length));
            s.due("wipe of " + length, x.wipe(), length);
            s.due("the length then", x.count(17), 0);
            s.due("the fault then", x.fault(), 0);
            s.due("wipe of nothing", x.wipe(), 0);
            Check.put(x, "1:/");
            s.due("nothing is left of it", x.read(), 0);
        }
        s.isNoChange("wipe", Sentences.BUSY, DoubtfulTrunks::wipe);
        s.due("wiped ahead of read", Sentences.made(Sentences.BUSY).wipe(), 7);
    }

    private static void fault() {
        s.of("Returns the fault of the pad, NONE if there is none.");
        faultIs("", 0);
        faultIs("5", 0);
        faultIs("0", 1);
        faultIs("0:/", NONE);
        faultIs(LONGEST, NONE);
        faultIs("0:/" + "=".repeat(57), 4);
        s.changesNothing("fault", Sentences.BUSY, DoubtfulTrunks::fault);
        s.changesNothing("fault of an empty pad", Sentences.NEW, DoubtfulTrunks::fault);
        s.isNoChange("fault", Sentences.BUSY, DoubtfulTrunks::fault);
        DoubtfulTrunks x = new DoubtfulTrunks();
        Check.put(x, "2:a3/b4=c5");
        x.fault();
        s.due("told twice", x.fault(), NONE);
        s.due("and then read", x.read(), 0);
        s.due("the pad is empty then", x.fault(), 0);
    }
}
