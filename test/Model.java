import java.util.ArrayDeque;
import java.util.ArrayList;
import java.util.Deque;
import java.util.List;
import java.util.regex.Matcher;
import java.util.regex.Pattern;

/**
 * The document told a second time, as plainly as the Java library lets it be told:
 * whole copies for undo and what-ifs, a pattern for the texts, every SMALL tried out.
 */
final class Model {
    static final int NO_SUCH = -1, BAD_VALUE = -2, BAD_TEXT = -3, TOO_MANY = -4, NOT_POSSIBLE = -5, NONE = -6;

    private static final int[] LEAST = {0, 0, 0, 0, 0, 1};
    private static final int[] MOST = {200, 50, 90, 20, 9, 4};
    private static final String PAPER = "((?:a[1-9])?(?:b[1-9])?(?:c[1-9])?(?:d[1-9])?(?:e[1-9])?(?:f[1-9])?)";
    private static final Pattern TEXT = Pattern.compile("([0-4]):" + PAPER + "/" + PAPER + "(=" + PAPER + ")?");

    private static final class Trunk {
        int country, desk, account, came, fate, fined, handed;
        int[][] papers = new int[3][6];

        Trunk copy() {
            Trunk t = new Trunk();
            t.country = country;
            t.desk = desk;
            t.account = account;
            t.came = came;
            t.fate = fate;
            t.fined = fined;
            t.handed = handed;
            for (int p = 0; p < 3; p++) t.papers[p] = papers[p].clone();
            return t;
        }
    }

    private static final class World {
        int[] settings = {10, 5, 20, 1, 0, 1};
        int[] weights = {1, 2, 3, 4, 5, 6};
        int[] trusts = {5, 5, 5, 5, 5};
        int[] hands = {1, 1, 1};
        int[] looks = new int[3];
        int[] passes = new int[3];
        int turns, fees, fines, delays;
        List<Trunk> trunks = new ArrayList<>();
        List<Deque<Integer>> queues = new ArrayList<>();

        World() {
            for (int d = 0; d < 3; d++) queues.add(new ArrayDeque<>());
        }

        World copy() {
            World w = new World();
            w.settings = settings.clone();
            w.weights = weights.clone();
            w.trusts = trusts.clone();
            w.hands = hands.clone();
            w.looks = looks.clone();
            w.passes = passes.clone();
            w.turns = turns;
            w.fees = fees;
            w.fines = fines;
            w.delays = delays;
            for (Trunk t : trunks) w.trunks.add(t.copy());
            for (int d = 0; d < 3; d++) w.queues.set(d, new ArrayDeque<>(queues.get(d)));
            return w;
        }

        boolean came(int trunk) {
            return trunk >= 0 && trunk < trunks.size();
        }

        boolean waits(int trunk) {
            return came(trunk) && trunks.get(trunk).fate == 0;
        }

        int waiting() {
            return queues.get(0).size() + queues.get(1).size() + queues.get(2).size();
        }

        int disagree(Trunk t) {
            int set = 0;
            for (int k = 0; k < 6; k++) {
                if (Math.abs(t.papers[0][k] - t.papers[1][k]) > settings[4]) set += 1 << k;
            }
            return set;
        }

        int doubt(Trunk t) {
            int set = disagree(t);
            if (set == 0) return 0;
            int doubt = 9 - trusts[t.country];
            for (int k = 0; k < 6; k++) {
                if ((set >> k & 1) == 1) doubt += Math.abs(t.papers[0][k] - t.papers[1][k]) * weights[k];
            }
            return doubt;
        }

        int fated(int fate) {
            int n = 0;
            for (Trunk t : trunks) if (t.fate == fate) n++;
            return n;
        }

        int accounts() {
            int sum = 0;
            for (Trunk t : trunks) sum += t.account;
            return sum;
        }

        int turns(int n) {
            int before = fated(1) + fated(2);
            for (int i = 0; i < n; i++) turn();
            return fated(1) + fated(2) - before;
        }

        void turn() {
            int opened = 0;
            for (int d = 2; d >= 0; d--) {
                boolean active = true;
                for (int h = 0; h < hands[d] && active; h++) {
                    Integer number = queues.get(d).pollFirst();
                    if (number == null) break;
                    Trunk t = trunks.get(number);
                    looks[d]++;
                    if (disagree(t) == 0) {
                        t.fate = 1;
                        passes[d]++;
                    } else if (d < 2 && doubt(t) <= settings[0] * (d + 1)) {
                        t.account += settings[1];
                        fees += settings[1];
                        t.fate = 1;
                        passes[d]++;
                    } else if (d < 2) {
                        queues.get(d + 1).addLast(number);
                        t.handed++;
                        t.desk = d + 1;
                    } else if (opened < settings[5]) {
                        opened++;
                        for (int k = 0; k < 6; k++) {
                            if (t.papers[2][k] > t.papers[0][k] && t.papers[2][k] > t.papers[1][k]) {
                                t.fined |= 1 << k;
                                t.account += settings[2];
                                fines += settings[2];
                            }
                        }
                        t.fate = 2;
                        passes[d]++;
                    } else {
                        queues.get(d).addFirst(number);
                        active = false;
                    }
                }
            }
            for (Deque<Integer> queue : queues) {
                for (int number : queue) {
                    trunks.get(number).account += settings[3];
                    delays += settings[3];
                }
            }
            turns++;
        }
    }

    private World now = new World();
    private final StringBuilder pad = new StringBuilder();
    private final Deque<World> history = new ArrayDeque<>();
    private final World[] slots = new World[2];

    private static boolean in(int value, int least, int most) {
        return least <= value && value <= most;
    }

    private void change() {
        history.addLast(now.copy());
        if (history.size() > 4) history.removeFirst();
    }

    int set(int setting, int value) {
        if (!in(setting, 0, 5) || !in(value, LEAST[setting], MOST[setting])) return BAD_VALUE;
        change();
        int old = now.settings[setting];
        now.settings[setting] = value;
        return old;
    }

    private int replace(int[] row, int at, int value, int least, int most) {
        if (!in(at, 0, row.length - 1)) return NO_SUCH;
        if (!in(value, least, most)) return BAD_VALUE;
        change();
        int old = row[at];
        row[at] = value;
        return old;
    }

    int weight(int kind, int weight) {
        return replace(now.weights, kind, weight, 1, 9);
    }

    int trust(int country, int trust) {
        return replace(now.trusts, country, trust, 0, 9);
    }

    int hands(int desk, int hands) {
        return replace(now.hands, desk, hands, 0, 3);
    }

    int read() {
        Matcher m = TEXT.matcher(pad);
        if (!m.matches()) return BAD_TEXT;
        if (now.waiting() == 16 || now.trunks.size() == 64) return TOO_MANY;
        change();
        Trunk t = new Trunk();
        t.country = pad.charAt(0) - '0';
        t.came = now.turns;
        String[] papers = {m.group(2), m.group(3), m.group(4) == null ? m.group(2) : m.group(5)};
        for (int p = 0; p < 3; p++) {
            for (int i = 0; i < papers[p].length(); i += 2) {
                t.papers[p][papers[p].charAt(i) - 'a'] = papers[p].charAt(i + 1) - '0';
            }
        }
        int number = now.trunks.size();
        now.trunks.add(t);
        now.queues.get(0).addLast(number);
        pad.setLength(0);
        return number;
    }

    int mend(int trunk, int paper, int kind, int pieces) {
        if (!now.waits(trunk) || !in(kind, 0, 5)) return NO_SUCH;
        if (!in(paper, 0, 1) || !in(pieces, 0, 9)) return BAD_VALUE;
        change();
        now.trunks.get(trunk).papers[paper][kind] = pieces;
        return now.doubt(now.trunks.get(trunk));
    }

    int sendBack(int trunk) {
        if (!now.waits(trunk)) return NO_SUCH;
        change();
        Trunk t = now.trunks.get(trunk);
        t.fate = 3;
        for (Deque<Integer> queue : now.queues) queue.remove(trunk);
        return t.account;
    }

    int turn(int turns) {
        if (!in(turns, 1, 99)) return BAD_VALUE;
        if (now.turns + turns > 9999) return TOO_MANY;
        change();
        return now.turns(turns);
    }

    int trunk(int trunk, int what) {
        if (!now.came(trunk)) return NO_SUCH;
        Trunk t = now.trunks.get(trunk);
        boolean waits = t.fate == 0;
        return switch (what) {
            case 0 -> t.country;
            case 1 -> waits ? t.desk : NONE;
            case 2 -> waits ? new ArrayList<>(now.queues.get(t.desk)).indexOf(trunk) : NONE;
            case 3 -> now.doubt(t);
            case 4 -> now.disagree(t);
            case 5 -> t.account;
            case 6 -> t.came;
            case 7 -> t.fate;
            case 8 -> t.fined;
            case 9 -> t.handed;
            default -> BAD_VALUE;
        };
    }

    int pieces(int trunk, int paper, int kind) {
        if (!now.came(trunk) || !in(kind, 0, 5)) return NO_SUCH;
        if (!in(paper, 0, 2)) return BAD_VALUE;
        return now.trunks.get(trunk).papers[paper][kind];
    }

    int alike(int trunk, int way) {
        if (!now.came(trunk)) return NO_SUCH;
        if (!in(way, 0, 1)) return BAD_VALUE;
        return now.disagree(now.trunks.get(trunk)) == 0 ? 1 : 0;
    }

    int desk(int desk, int what) {
        if (!in(desk, 0, 2)) return NO_SUCH;
        int doubts = 0;
        for (int number : now.queues.get(desk)) doubts += now.doubt(now.trunks.get(number));
        return switch (what) {
            case 0 -> now.hands[desk];
            case 1 -> now.queues.get(desk).size();
            case 2 -> doubts;
            case 3 -> now.looks[desk];
            case 4 -> now.passes[desk];
            default -> BAD_VALUE;
        };
    }

    int count(int what) {
        int unfined = 0;
        for (Trunk t : now.trunks) if (t.fate == 2 && t.fined == 0) unfined++;
        return switch (what) {
            case 0, 1, 2, 3, 4, 5 -> now.settings[what];
            case 6 -> now.turns;
            case 7 -> now.trunks.size();
            case 8 -> now.waiting();
            case 9, 10, 11 -> now.fated(what - 8);
            case 12 -> now.fees;
            case 13 -> now.fines;
            case 14 -> now.delays;
            case 15 -> now.accounts();
            case 16 -> unfined;
            case 17 -> pad.length();
            case 18 -> history.size();
            default -> BAD_VALUE;
        };
    }

    int untilGone(int trunk) {
        if (!now.came(trunk)) return NO_SUCH;
        World w = now.copy();
        for (int n = 0; n <= 200; n++) {
            if (!w.waits(trunk)) return n;
            w.turn();
        }
        return NONE;
    }

    int fate(int trunk) {
        if (!now.came(trunk)) return NO_SUCH;
        World w = now.copy();
        w.turns(200);
        int fate = w.trunks.get(trunk).fate;
        return fate == 0 ? NONE : fate;
    }

    int mostDoubted() {
        int best = NONE;
        for (int i = now.trunks.size() - 1; i >= 0; i--) {
            if (!now.waits(i)) continue;
            if (best == NONE || now.doubt(now.trunks.get(i)) >= now.doubt(now.trunks.get(best))) best = i;
        }
        return best;
    }

    int ifTurned(int turns, int what) {
        if (!in(turns, 1, 200) || !in(what, 0, 2)) return BAD_VALUE;
        World w = now.copy();
        int passed = w.turns(turns);
        return what == 0 ? passed : what == 1 ? w.fated(2) - now.fated(2) : w.accounts() - now.accounts();
    }

    int bestHand() {
        int[] passes = new int[3];
        int best = NONE;
        int most = now.copy().turns(5);
        for (int d = 0; d < 3; d++) {
            if (now.hands[d] == 3) continue;
            World w = now.copy();
            w.hands[d]++;
            passes[d] = w.turns(5);
            if (passes[d] > most) {
                most = passes[d];
                best = d;
            }
        }
        return best;
    }

    int leastSmall() {
        for (int small = 0; small <= 200; small++) {
            World w = now.copy();
            w.settings[0] = small;
            int turns = 0;
            while (turns < 200 && w.waiting() > 0 && w.fated(2) == now.fated(2)) {
                w.turn();
                turns++;
            }
            if (w.fated(2) == now.fated(2)) return small;
        }
        return NONE;
    }

    int put(long characters) {
        StringBuilder signs = new StringBuilder();
        boolean ended = false;
        for (int i = 0; i < 8; i++) {
            int code = (int) (characters >>> 8 * i) & 255;
            if (code == 0) {
                ended = true;
            } else {
                if (ended || !in(code, 33, 126)) return BAD_VALUE;
                signs.append((char) code);
            }
        }
        if (signs.length() == 0) return BAD_VALUE;
        if (pad.length() + signs.length() > 60) return TOO_MANY;
        pad.append(signs.reverse());
        return pad.length();
    }

    int wipe() {
        int length = pad.length();
        pad.setLength(0);
        return length;
    }

    /** The first sign with which no text goes on: the shortest beginning that no text has. */
    int fault() {
        if (TEXT.matcher(pad).matches()) return NONE;
        for (int length = 1; length <= pad.length(); length++) {
            Matcher m = TEXT.matcher(pad.substring(0, length));
            if (!m.matches() && !m.hitEnd()) return length - 1;
        }
        return pad.length();
    }

    int undo() {
        if (history.isEmpty()) return NOT_POSSIBLE;
        now = history.removeLast();
        return history.size();
    }

    int save(int slot) {
        if (!in(slot, 0, 1)) return BAD_VALUE;
        slots[slot] = now.copy();
        return now.turns;
    }

    int restore(int slot) {
        if (!in(slot, 0, 1)) return BAD_VALUE;
        if (slots[slot] == null) return NOT_POSSIBLE;
        change();
        now = slots[slot].copy();
        return now.turns;
    }
}
