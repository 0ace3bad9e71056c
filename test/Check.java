import java.util.ArrayList;
import java.util.List;

/** Counts answers that are not the ones that are due, and helps the tests to write their runs. */
final class Check {
    private final String name;
    private int checks;
    private int wrong;

    Check(String name) {
        this.name = name;
    }

    void due(String call, long got, long want) {
        checks++;
        if (got != want) {
            wrong++;
            System.out.println(name + ": " + call + " answered " + got + ", due is " + want);
        }
    }

    void same(String what, List<Integer> got, List<Integer> want) {
        checks++;
        if (!got.equals(want)) {
            wrong++;
            System.out.println(name + ": " + what + ":\n  got " + got + "\n  due " + want);
        }
    }

    void holds(String what, boolean holds) {
        due(what, holds ? 1 : 0, 1);
    }

    boolean isWrong() {
        return wrong > 0;
    }

    void finish() {
        System.out.println(name + ": " + checks + " checks, " + wrong + " wrong");
        if (wrong > 0) {
            System.exit(1);
        }
    }

    /** The number by which put is given up to 8 characters. */
    static long signs(String text) {
        long number = 0;
        for (int i = 0; i < text.length(); i++) {
            number = number << 8 | text.charAt(i);
        }
        return number;
    }

    static void put(DoubtfulTrunks x, String text) {
        for (int i = 0; i < text.length(); i += 8) {
            x.put(signs(text.substring(i, Math.min(text.length(), i + 8))));
        }
    }

    /** Lets a trunk come, and returns what read answers. */
    static int come(DoubtfulTrunks x, String text) {
        x.wipe();
        put(x, text);
        return x.read();
    }

    static int faultOf(DoubtfulTrunks x, String text) {
        x.wipe();
        put(x, text);
        return x.fault();
    }

    /** What the looking calls tell, of the first trunks alone, so that a run stays under 512 calls. */
    static List<Integer> view(DoubtfulTrunks x, int trunks) {
        List<Integer> seen = new ArrayList<>();
        for (int what = 0; what <= 18; what++) {
            seen.add(x.count(what));
        }
        for (int desk = 0; desk < 3; desk++) {
            for (int what = 0; what <= 4; what++) {
                seen.add(x.desk(desk, what));
            }
        }
        for (int trunk = 0; trunk < trunks; trunk++) {
            for (int what = 0; what <= 9; what++) {
                seen.add(x.trunk(trunk, what));
            }
            for (int paper = 0; paper < 3; paper++) {
                for (int kind = 0; kind < 6; kind++) {
                    seen.add(x.pieces(trunk, paper, kind));
                }
            }
        }
        seen.add(x.fault());
        return seen;
    }
}
