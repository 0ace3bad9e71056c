import java.util.List;

/** Promises 21 to 23, and what the document tells of texts. */
public final class TextsTest {
    private static final Check check = new Check("Texts");

    public static void main(String[] args) {
        put();
        putRefused();
        putTooMany();
        wipe();
        rightTexts();
        faults();
        notChanges();
        check.finish();
    }

    private static void put() {
        DoubtfulTrunks x = new DoubtfulTrunks();
        check.due("21: one character", x.put('0'), 1);
        check.due("21: three", x.put(Check.signs(":a2")), 4);
        check.due("21: eight", x.put(Check.signs("/b3c4=d5")), 12);
        check.due("21: the length", x.count(17), 12);
        check.due("21: read", x.read(), 0);
        check.due("21: in their order", x.pieces(0, 0, 0), 2);
        check.due("21: in their order", x.pieces(0, 1, 2), 4);
        check.due("21: in their order", x.pieces(0, 2, 3), 5);
        for (int count = 1; count <= 8; count++) {
            x.wipe();
            check.due("21: " + count + " characters", x.put(Check.signs("!~!~!~!~".substring(0, count))), count);
            x.wipe();
            check.due("21: " + count + " characters", x.put(Check.signs("~~~~~~~~".substring(0, count))), count);
        }
        x.wipe();
        check.due("21: code 33", x.put(33), 1);
        check.due("21: code 126", x.put(126), 2);
    }

    private static void putRefused() {
        DoubtfulTrunks x = new DoubtfulTrunks();
        Check.put(x, "0:");
        long[] wrong = {0, 32, 127, 128, 255, -1, Long.MIN_VALUE, Long.MAX_VALUE, -48,
                0x3000L, 0x300030L, 0x3000000000000030L, 0x30_30_30_00_30_30_30_30L, 0x3030303030303000L,
                0x3020L, 0x2030L, 0x7F30L, 0x8030L, 0xFF30L, 0x1F30303030303030L, 0x8030303030303030L,
                0xB030303030303030L, 0x7F30303030303030L, 0x0100000000000030L, 0x8000000000000030L,
                0x3030303030303020L, 0x303030303030300AL};
        for (long characters : wrong) {
            check.due("21: put(" + Long.toHexString(characters) + ")", x.put(characters), -2);
        }
        check.due("21: errors change nothing", x.count(17), 2);
        check.due("21: nor the text", x.fault(), 2);
    }

    private static void putTooMany() {
        DoubtfulTrunks x = new DoubtfulTrunks();
        for (int call = 1; call <= 7; call++) {
            check.due("21: put", x.put(Check.signs("00000000")), 8 * call);
        }
        check.due("21: 61 characters", x.put(Check.signs("00000")), -4);
        check.due("21: 64 characters", x.put(Check.signs("00000000")), -4);
        check.due("21: BAD_VALUE ahead of TOO_MANY", x.put(0x3030303030303020L), -2);
        check.due("21: unchanged", x.count(17), 56);
        check.due("21: 60 characters", x.put(Check.signs("0000")), 60);
        check.due("21: one more", x.put('0'), -4);
        check.due("21: none is BAD_VALUE still", x.put(0), -2);
        check.due("22: wipe", x.wipe(), 60);
    }

    private static void wipe() {
        DoubtfulTrunks x = new DoubtfulTrunks();
        check.due("22: an empty pad", x.wipe(), 0);
        Check.put(x, "0:/=a");
        check.due("22: five", x.wipe(), 5);
        check.due("22: empty then", x.count(17), 0);
        check.due("22: once more", x.wipe(), 0);
        Check.put(x, "0:/");
        check.due("22: nothing of it is left", x.fault(), -6);
    }

    private static void rightTexts() {
        DoubtfulTrunks x = new DoubtfulTrunks();
        String[] right = {"0:/", "4:/", "0:/=", "1:a1/", "1:/f9", "1:/=c5", "2:a1b2c3d4e5f6/", "2:/a9b9c9d9e9f9",
                "3:a1b2c3d4e5f6/a1b2c3d4e5f6=a1b2c3d4e5f6", "0:a1f1/b2=", "0:e1f1/d1f9=a1"};
        for (String text : right) {
            check.due("23: " + text, Check.faultOf(x, text), -6);
        }
    }

    private static void faults() {
        DoubtfulTrunks x = new DoubtfulTrunks();
        Object[][] faults = {
            {"", 0}, {"5", 0}, {"9:/", 0}, {"a", 0}, {":", 0}, {"/", 0}, {"!", 0},
            {"0", 1}, {"0/", 1}, {"00", 1}, {"0a1/", 1}, {"0;/", 1},
            {"0:", 2}, {"0:=", 2}, {"0:1", 2}, {"0:g1/", 2}, {"0:A1/", 2}, {"0::", 2}, {"0:`1/", 2},
            {"0:a", 3}, {"0:a0/", 3}, {"0:a:/", 3}, {"0:ab", 3}, {"0:a/", 3},
            {"0:a1", 4}, {"0:a1=", 4}, {"0:a12/", 4}, {"0:a1a2/", 4}, {"0:b1a2/", 4}, {"0:a1g1/", 4}, {"0:f1a1", 4},
            {"0:f1g", 4}, {"0:a1b2c3d4e5f6", 14}, {"0:a1b2c3d4e5f6a1/", 14}, {"0:a1b2c3d4e5f6g1/", 14},
            {"0:/a", 4}, {"0:/a0", 4}, {"0://", 3}, {"0:/:", 3}, {"0:/a1/", 5}, {"0:/a1a1", 5}, {"0:/c1b1=", 5},
            {"0:/=a", 5}, {"0:/=a0", 5}, {"0:/==", 4}, {"0:/=/", 4}, {"0:/=a1=", 6}, {"0:/=a1/", 6}, {"0:/=f1f1", 6},
            {"0:/=a1b", 7}, {"0:/=a1b2c3d4e5f6a", 16}, {"0:/=a1b2c3d4e5f6=", 16}, {"0:/x", 3},
            {"0:a1b2c3d4e5f6/a1b2c3d4e5f6=a1b2c3d4e5f60", 40},
        };
        for (Object[] row : faults) {
            check.due("23: " + row[0], Check.faultOf(x, (String) row[0]), (Integer) row[1]);
            check.due("23: read " + row[0], x.read(), -3);
        }
        Check.faultOf(x, "0:/=a1b2");
        check.due("23: asked twice", x.fault(), -6);
        check.due("23: the pad is kept", x.count(17), 8);
    }

    private static void notChanges() {
        DoubtfulTrunks x = new DoubtfulTrunks();
        Check.come(x, "0:a1/");
        List<Integer> before = Check.view(x, 1);
        Check.put(x, "0:");
        x.fault();
        x.wipe();
        check.same("21 to 23: the pad alone is touched", Check.view(x, 1), before);
    }
}
