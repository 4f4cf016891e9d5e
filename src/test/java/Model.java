import java.util.ArrayDeque;
import java.util.ArrayList;
import java.util.Arrays;
import java.util.List;
import java.util.TreeSet;

/** The document once more, as slow and as near to its words as can be: RandomRunsTest holds the class against it. */
final class Model {
    static final class Fault extends Exception {
        private static final long serialVersionUID = 1L;
        final int number;

        Fault(int place, int kind) {
            this.number = 1 + 8 * place + kind;
        }
    }

    /** All but the TAPE and the RULES. */
    static final class State {
        int stalls, shift, near, dusk = 12, duskPrice = 5, hear = 1, hour;
        List<int[]> halves = new ArrayList<>();   // where, SHAPE, SIDE, PRICE, FORGED
        List<int[]> buyers = new ArrayList<>();   // PURSE, SPOT, club
        List<TreeSet<Integer>> seen = new ArrayList<>();
        List<int[]> trials = new ArrayList<>();
        long x;

        State copy() {
            State s = new State();
            s.stalls = stalls;
            s.shift = shift;
            s.near = near;
            s.dusk = dusk;
            s.duskPrice = duskPrice;
            s.hear = hear;
            s.hour = hour;
            s.x = x;
            for (int[] h : halves) s.halves.add(h.clone());
            for (int[] b : buyers) s.buyers.add(b.clone());
            for (TreeSet<Integer> t : seen) s.seen.add(new TreeSet<>(t));
            for (int[] t : trials) s.trials.add(t.clone());
            return s;
        }

        int spotOf(int stall, int t) {
            return (stall + t * shift) % stalls;
        }

        int stallOf(int b) {
            for (int s = 0; s < stalls; s++) if (spotOf(s, hour) == buyers.get(b)[1]) return s;
            throw new IllegalStateException();
        }

        int price(int h) {
            return hour >= dusk ? duskPrice : halves.get(h)[3];
        }

        int left() {
            return hour >= dusk ? 0 : dusk - hour;
        }

        int fit(int a, int b) {
            int[] p = halves.get(a), q = halves.get(b);
            if (a == b) return 0;
            if (p[4] == 1 || q[4] == 1) return 2;
            if (p[2] == q[2]) return 0;
            int apart = Math.abs(p[1] - q[1]);
            return apart == 0 ? 2 : apart <= near ? 1 : 0;
        }

        List<Integer> has(int b) {
            List<Integer> all = new ArrayList<>();
            for (int h = 0; h < halves.size(); h++) if (halves.get(h)[0] == 100 + b) all.add(h);
            return all;
        }

        boolean saw(int b, int h) {
            for (int c = 0; c < buyers.size(); c++) {
                if (buyers.get(c)[2] == buyers.get(b)[2] && seen.get(c).contains(h)) return true;
            }
            return false;
        }

        void see() {
            for (int b = 0; b < buyers.size(); b++) {
                for (int h = 0; h < halves.size(); h++) if (halves.get(h)[0] == stallOf(b)) seen.get(b).add(h);
            }
        }

        void step(int b, int way) {
            int[] who = buyers.get(b);
            who[1] = (who[1] + way + stalls) % stalls;
        }

        int worth(List<Integer> set) {
            if (set.isEmpty()) return 0;
            List<Integer> rest = new ArrayList<>(set.subList(1, set.size()));
            int best = 9 + worth(rest);
            for (int i = 0; i < rest.size(); i++) {
                int f = fit(set.get(0), rest.get(i));
                if (f == 0) continue;
                List<Integer> less = new ArrayList<>(rest);
                less.remove(i);
                best = Math.max(best, 20 * f + worth(less));
            }
            return best;
        }

        /** All ways to pair a set, each a row of partners; the first row that is worth the most. */
        int[] bestRow(List<Integer> set) {
            List<int[]> rows = new ArrayList<>();
            int[] row = new int[12];
            Arrays.fill(row, -9);
            rowsFrom(set, 0, row, rows);
            int[] best = null;
            int bestWorth = -1;
            for (int[] r : rows) {
                int w = 0;
                for (int h : set) w += r[h] < 0 ? 9 : 10 * fit(h, r[h]);
                if (w > bestWorth || w == bestWorth && Arrays.compare(r, best) < 0) {
                    best = r;
                    bestWorth = w;
                }
            }
            return best;
        }

        private void rowsFrom(List<Integer> set, int i, int[] row, List<int[]> rows) {
            if (i == set.size()) {
                rows.add(row.clone());
                return;
            }
            int h = set.get(i);
            if (row[h] != -9) {
                rowsFrom(set, i + 1, row, rows);
                return;
            }
            row[h] = -1;
            rowsFrom(set, i + 1, row, rows);
            for (int j = i + 1; j < set.size(); j++) {
                int k = set.get(j);
                if (row[k] == -9 && fit(h, k) > 0) {
                    row[h] = k;
                    row[k] = h;
                    rowsFrom(set, i + 1, row, rows);
                    row[k] = -9;
                }
            }
            row[h] = -9;
        }
    }

    interface Truth {
        boolean of(State s, int b, int h);
    }

    interface Sum {
        long of(State s, int b, int h);
    }

    record Clause(boolean buys, Sum sum, Truth test) {
    }

    StringBuilder tape = new StringBuilder();
    List<List<Clause>> rules = new ArrayList<>();
    State s = new State();
    ArrayDeque<State> past = new ArrayDeque<>();
    State[] images = new State[4];

    // ---- texts

    private int place;
    private int parts;

    private void blanks() {
        while (place < tape.length() && tape.charAt(place) == ' ') place++;
    }

    private String word() {
        blanks();
        int from = place, to = place;
        while (to < tape.length() && Character.isLetter(tape.charAt(to)) && tape.charAt(to) >= 'a'
            && tape.charAt(to) <= 'z') to++;
        return tape.substring(from, to);
    }

    private boolean next(String text) {
        blanks();
        return tape.indexOf(text, place) == place && !text.isEmpty();
    }

    private int number(int least, int most) throws Fault {
        blanks();
        int from = place;
        StringBuilder digits = new StringBuilder();
        while (place < tape.length() && "0123456789".indexOf(tape.charAt(place)) >= 0) digits.append(tape.charAt(place++));
        if (digits.length() == 0) throw new Fault(from, 0);
        if (digits.length() > 5) throw new Fault(from, 1);
        int n = Integer.parseInt(digits.toString());
        if (n < least || n > most) throw new Fault(from, 1);
        return n;
    }

    private boolean more() throws Fault {
        blanks();
        if (place == tape.length()) return false;
        if (tape.charAt(place) != ';') throw new Fault(place, 0);
        place++;
        return true;
    }

    private State readFair() throws Fault {
        State f = new State();
        List<String> kinds = List.of("stalls", "half", "forged", "buyer", "club", "near", "dusk", "hear");
        List<String> once = new ArrayList<>();
        place = 0;
        int clauses = 0;
        do {
            String kind = word();
            if (!kinds.contains(kind)) throw new Fault(place, 0);
            if (clauses == 40) throw new Fault(place, 4);
            if (clauses == 0 && !kind.equals("stalls")) throw new Fault(place, 4);
            if (once.contains(kind)) throw new Fault(place, 4);
            if (kind.equals("half") && f.halves.size() == 12) throw new Fault(place, 4);
            if (kind.equals("buyer") && f.buyers.size() == 4) throw new Fault(place, 4);
            place += kind.length();
            clauses++;
            if (List.of("stalls", "near", "dusk", "hear").contains(kind)) once.add(kind);
            if (kind.equals("stalls")) {
                f.stalls = number(2, 8);
                f.shift = number(0, 7);
            } else if (kind.equals("half")) {
                f.halves.add(new int[] {number(0, f.stalls - 1), number(0, 99), number(0, 1), number(1, 99), 0});
            } else if (kind.equals("forged")) {
                f.halves.get(number(0, f.halves.size() - 1))[4] = 1;
            } else if (kind.equals("buyer")) {
                f.buyers.add(new int[] {number(0, 999), number(0, f.stalls - 1), f.buyers.size()});
                f.seen.add(new TreeSet<>());
            } else if (kind.equals("club")) {
                int a = number(0, f.buyers.size() - 1);
                blanks();
                int from = place;
                int b = number(0, f.buyers.size() - 1);
                if (a == b) throw new Fault(from, 1);
                int gone = f.buyers.get(b)[2], stays = f.buyers.get(a)[2];
                for (int[] w : f.buyers) if (w[2] == gone) w[2] = stays;
            } else if (kind.equals("near")) {
                f.near = number(0, 9);
            } else if (kind.equals("dusk")) {
                f.dusk = number(1, 24);
                f.duskPrice = number(1, 99);
            } else {
                f.hear = number(0, 7);
            }
        } while (more());
        return f;
    }

    private List<Clause> readRule() throws Fault {
        List<Clause> clauses = new ArrayList<>();
        place = 0;
        parts = 0;
        do {
            String kind = word();
            if (!kind.equals("buy") && !kind.equals("go")) throw new Fault(place, 0);
            if (clauses.size() == 12) throw new Fault(place, 4);
            place += kind.length();
            boolean buys = kind.equals("buy");
            Sum sum = sum(buys);
            Truth test = null;
            if (word().equals("if")) {
                place += 2;
                test = test(buys, 0);
            }
            clauses.add(new Clause(buys, sum, test));
        } while (more());
        return clauses;
    }

    private Truth test(boolean buys, int depth) throws Fault {
        Truth all = part(buys, depth);
        while (word().equals("or")) {
            place += 2;
            Truth one = all, other = part(buys, depth);
            all = (s, b, h) -> one.of(s, b, h) || other.of(s, b, h);
        }
        return all;
    }

    private Truth part(boolean buys, int depth) throws Fault {
        Truth all = fact(buys, depth);
        while (word().equals("and")) {
            place += 3;
            Truth one = all, other = fact(buys, depth);
            all = (s, b, h) -> one.of(s, b, h) && other.of(s, b, h);
        }
        return all;
    }

    private Truth fact(boolean buys, int depth) throws Fault {
        if (word().equals("not")) {
            if (depth == 10) throw new Fault(place, 2);
            place += 3;
            Truth inner = fact(buys, depth + 1);
            return (s, b, h) -> !inner.of(s, b, h);
        }
        if (next("[")) {
            if (depth == 10) throw new Fault(place, 2);
            place++;
            Truth inner = test(buys, depth + 1);
            if (!next("]")) throw new Fault(place, 0);
            place++;
            return inner;
        }
        Sum one = sum(buys);
        String sign = null;
        for (String t : List.of("<=", ">=", "<", ">", "=")) if (sign == null && next(t)) sign = t;
        if (sign == null) throw new Fault(place, 0);
        if (++parts > 60) throw new Fault(place, 3);
        place += sign.length();
        Sum other = sum(buys);
        String is = sign;
        return (s, b, h) -> {
            int c = Long.compare(one.of(s, b, h), other.of(s, b, h));
            return is.contains("=") && c == 0 || is.contains("<") && c < 0 || is.contains(">") && c > 0;
        };
    }

    private Sum sum(boolean buys) throws Fault {
        Sum all = term(buys);
        while (next("+") || next("-")) {
            boolean plus = tape.charAt(place++) == '+';
            Sum one = all, other = term(buys);
            all = (s, b, h) -> plus ? one.of(s, b, h) + other.of(s, b, h) : one.of(s, b, h) - other.of(s, b, h);
        }
        return all;
    }

    private Sum term(boolean buys) throws Fault {
        Sum all = value(buys);
        while (next("*") || next("/") || next("%")) {
            char sign = tape.charAt(place++);
            Sum one = all, other = value(buys);
            all = (s, b, h) -> {
                long p = one.of(s, b, h), q = other.of(s, b, h);
                return sign == '*' ? p * q : q == 0 ? 0 : sign == '/' ? p / q : p % q;
            };
        }
        return all;
    }

    private Sum value(boolean buys) throws Fault {
        String w = word();
        int from = place;
        Sum value;
        if (!w.isEmpty()) {
            List<String> own = List.of("buyer", "purse", "spot", "hour", "left", "has");
            List<String> ofHalf = List.of("half", "shape", "side", "price", "fits", "nearly", "known");
            if (!own.contains(w) && !ofHalf.contains(w)) throw new Fault(from, 0);
            value = ofHalf.contains(w) && !buys ? (s, b, h) -> 0 : (s, b, h) -> wordOf(w, s, b, h);
            place += w.length();
        } else {
            long n = number(0, 99999);
            value = (s, b, h) -> n;
        }
        if (++parts > 60) throw new Fault(from, 3);
        return value;
    }

    private static long wordOf(String w, State s, int b, int h) {
        int n = 0;
        switch (w) {
            case "buyer": return b;
            case "purse": return s.buyers.get(b)[0];
            case "spot": return s.buyers.get(b)[1];
            case "hour": return s.hour;
            case "left": return s.left();
            case "has": return s.has(b).size();
            case "half": return h;
            case "shape": return s.halves.get(h)[1];
            case "side": return s.halves.get(h)[2];
            case "price": return s.price(h);
            case "fits":
                for (int o : s.has(b)) if (s.fit(o, h) == 2) n++;
                return n;
            case "nearly":
                for (int o : s.has(b)) if (s.fit(o, h) == 1) n++;
                return n;
            default:
                for (int o = 0; o < s.halves.size(); o++) {
                    if (s.halves.get(o)[0] < 100 && s.saw(b, o) && s.fit(o, h) == 2) n++;
                }
                return n;
        }
    }

    int feed(int... five) {
        if (tape.length() > 380) return -1;
        for (int n : five) for (int i = 3; i >= 0; i--) tape.append((char) (n >>> 8 * i & 255));
        return tape.length();
    }

    int end(int n) {
        if (n < 0 || n > tape.length()) return -1;
        tape.setLength(n);
        return n;
    }

    int fair() {
        try {
            State f = readFair();
            f.x = s.x;
            f.see();
            s = f;
            past.clear();
            tape.setLength(0);
            return s.halves.size();
        } catch (Fault fault) {
            return -2 - fault.number;
        }
    }

    int rule() {
        if (rules.size() == 6) return -1;
        try {
            rules.add(readRule());
            return rules.size() - 1;
        } catch (Fault fault) {
            return -2 - fault.number;
        } finally {
            tape.setLength(0);
        }
    }

    // ---- what is there

    private boolean noHalf(int h) {
        return h < 0 || h >= s.halves.size();
    }

    private boolean noBuyer(int b) {
        return b < 0 || b >= s.buyers.size();
    }

    private boolean notTheirs(int b, int h) {
        return noBuyer(b) || noHalf(h) || s.halves.get(h)[0] != 100 + b;
    }

    private static int bits(Iterable<Integer> set) {
        int bits = 0;
        for (int h : set) bits |= 1 << h;
        return bits;
    }

    private List<Integer> listOf(int set) {
        List<Integer> all = new ArrayList<>();
        for (int h = 0; h < 12; h++) if ((set >> h & 1) == 1) all.add(h);
        return all;
    }

    int half(int h, int what) {
        if (noHalf(h) || what < 0 || what > 4) return -1;
        int[] row = s.halves.get(h);
        return new int[] {row[1], row[2], s.price(h), row[0], row[4]}[what];
    }

    int fit(int a, int b) {
        return noHalf(a) || noHalf(b) || a == b ? -1 : s.fit(a, b);
    }

    int buyer(int b, int what) {
        if (noBuyer(b) || what < 0 || what > 5) return -1;
        if (what < 2) return s.buyers.get(b)[what];
        if (what == 2) return bits(s.has(b));
        if (what == 5) return s.worth(s.has(b));
        List<Integer> saw = new ArrayList<>(), club = new ArrayList<>();
        for (int h = 0; h < s.halves.size(); h++) if (s.saw(b, h)) saw.add(h);
        for (int c = 0; c < s.buyers.size(); c++) if (s.buyers.get(c)[2] == s.buyers.get(b)[2]) club.add(c);
        return bits(what == 3 ? saw : club);
    }

    int spot(int stall, int hours) {
        if (stall < 0 || stall >= s.stalls || hours < 0 || hours > 99) return -1;
        return s.spotOf(stall, s.hour + hours);
    }

    // ---- ACTS

    private void remember() {
        State kept = s.copy();
        past.addLast(kept);
        if (past.size() > 20) past.removeFirst();
    }

    int go(int b, int way) {
        if (noBuyer(b) || Math.abs((long) way) > 1 || s.hour == 99) return -1;
        remember();
        s.step(b, way);
        s.hour++;
        s.see();
        return s.hour;
    }

    int buy(int b, int h) {
        if (noBuyer(b) || noHalf(h) || s.halves.get(h)[0] != s.stallOf(b)) return -1;
        if (s.buyers.get(b)[0] < s.price(h)) return -1;
        remember();
        s.buyers.get(b)[0] -= s.price(h);
        s.halves.get(h)[0] = 100 + b;
        return s.buyers.get(b)[0];
    }

    int shout(int b, int shape) {
        if (noBuyer(b) || shape < 0 || shape > 99 || s.buyers.get(b)[0] == 0) return -1;
        remember();
        s.buyers.get(b)[0]--;
        int more = 0;
        for (int h = 0; h < s.halves.size(); h++) {
            int[] row = s.halves.get(h);
            if (row[0] >= 100 || Math.abs(row[1] - shape) > s.near) continue;
            int there = s.spotOf(row[0], s.hour), onwards = 0;
            while ((s.buyers.get(b)[1] + onwards) % s.stalls != there) onwards++;
            if (Math.min(onwards, s.stalls - onwards) <= s.hear && s.seen.get(b).add(h)) more++;
        }
        return more;
    }

    boolean swap(int a, int h, int b, int i) {
        if (notTheirs(a, h) || notTheirs(b, i) || a == b || s.buyers.get(a)[1] != s.buyers.get(b)[1]) return false;
        remember();
        s.halves.get(h)[0] = 100 + b;
        s.halves.get(i)[0] = 100 + a;
        s.seen.get(a).add(i);
        s.seen.get(b).add(h);
        return true;
    }

    int giveUp(int b, int h) {
        if (notTheirs(b, h)) return -1;
        remember();
        s.halves.get(h)[0] = s.stallOf(b);
        return s.buyers.get(b)[0] += s.price(h) / 2;
    }

    int undo() {
        if (past.isEmpty()) return -1;
        State was = past.removeLast();
        was.trials = s.trials;
        was.x = s.x;
        s = was;
        return past.size();
    }

    // ---- BY A RULE

    private static long sumOf(List<Clause> rule, boolean buys, State s, int b, int h) {
        for (Clause c : rule) {
            if (c.buys() == buys && (c.test() == null || c.test().of(s, b, h))) return c.sum().of(s, b, h);
        }
        return 0;
    }

    private static long draw(State s) {
        s.x = (s.x * 1103515245L + 12345) % 2147483648L;
        return s.x / 65536;
    }

    /** How many were bought. */
    private static int hour(State s, List<Clause> rule, int p, boolean draws) {
        int bought = 0;
        for (int b = 0; b < s.buyers.size(); b++) {
            boolean led = draws && draw(s) % 100 < p;
            int way = led ? (int) (draw(s) % 3) - 1 : 0;
            while (true) {
                int best = -1;
                long most = 0;
                for (int h = 0; h < s.halves.size(); h++) {
                    if (s.halves.get(h)[0] != s.stallOf(b) || s.price(h) > s.buyers.get(b)[0]) continue;
                    long sum = sumOf(rule, true, s, b, h);
                    if (sum > most) {
                        most = sum;
                        best = h;
                    }
                }
                if (best < 0) break;
                s.buyers.get(b)[0] -= s.price(best);
                s.halves.get(best)[0] = 100 + b;
                bought++;
            }
            long sum = led ? way : sumOf(rule, false, s, b, -1);
            s.step(b, sum == 1 ? 1 : sum == -1 ? -1 : 0);
        }
        s.hour++;
        s.see();
        return bought;
    }

    int run(int rule, int n) {
        if (s.stalls == 0 || rule < 0 || rule >= rules.size() || n < 1 || n > 48 || s.hour + n > 99) return -1;
        for (int i = 0; i < n; i++) hour(s, rules.get(rule), 0, false);
        past.clear();
        return s.hour;
    }

    // ---- what is asked

    int worth(int set) {
        return s.stalls == 0 || set < 0 || set >= 1 << s.halves.size() ? -1 : s.worth(listOf(set));
    }

    int with(int set, int h) {
        if (set < 0 || set >= 1 << s.halves.size() || noHalf(h) || (set >> h & 1) == 0) return -2;
        return s.bestRow(listOf(set))[h];
    }

    private int walkMost;
    private int walkFirst;
    private int walkBought;

    int walk(int b, int what) {
        if (noBuyer(b) || what < 0 || what > 2) return -3;
        if (s.left() > 12) return -4;
        if (what == 1 && s.left() == 0) return -2;
        walkMost = -1;
        walkFrom(s.copy(), b, 0, -9);
        return what == 0 ? walkMost : what == 1 ? walkFirst : walkBought;
    }

    private void walkFrom(State t, int b, int bought, int first) {
        if (t.left() == 0) {
            int got = t.worth(t.has(b)) + t.buyers.get(b)[0];
            if (got > walkMost) {
                walkMost = got;
                walkFirst = first;
                walkBought = bought;
            } else if (got == walkMost) {
                walkFirst = Math.min(walkFirst, first);
                walkBought = Math.min(walkBought, bought);
            }
            return;
        }
        List<Integer> here = new ArrayList<>();
        for (int h = 0; h < t.halves.size(); h++) if (t.halves.get(h)[0] == t.stallOf(b)) here.add(h);
        for (int set = 0; set < 1 << here.size(); set++) {
            State u = t.copy();
            int also = 0;
            for (int i = 0; i < here.size(); i++) {
                if ((set >> i & 1) == 0) continue;
                u.buyers.get(b)[0] -= u.price(here.get(i));
                u.halves.get(here.get(i))[0] = 100 + b;
                also |= 1 << here.get(i);
            }
            if (u.buyers.get(b)[0] < 0) continue;
            for (int g = -1; g <= 1; g++) {
                State v = u.copy();
                v.step(b, g);
                v.hour++;
                walkFrom(v, b, bought | also, first == -9 ? g : first);
            }
        }
    }

    private List<Integer> unseen(int b) {
        List<Integer> all = new ArrayList<>();
        for (int h = 0; h < s.halves.size(); h++) if (s.halves.get(h)[0] < 100 && !s.saw(b, h)) all.add(h);
        return all;
    }

    int chance(int b, int h, int part) {
        if (noBuyer(b) || noHalf(h) || part < 0 || part > 1) return -1;
        List<Integer> unseen = unseen(b);
        int above = 0;
        for (int u : unseen) if (s.fit(u, h) == 2) above++;
        int below = Math.max(unseen.size(), 1);
        for (int d = 12; d > 1; d--) {
            if (above % d == 0 && below % d == 0) {
                above /= d;
                below /= d;
            }
        }
        return above == 0 ? part : part == 0 ? above : below;
    }

    private int gain(int b, int h) {
        List<Integer> more = new ArrayList<>(new TreeSet<>(s.has(b)));
        more.add(h);
        return s.worth(more) - s.worth(s.has(b));
    }

    int yields(int a, int h, int b, int i, int what) {
        if (notTheirs(a, h) || notTheirs(b, i) || a == b || what < 0 || what > 1 || s.fit(h, i) == 0) return -1;
        int ga = gain(a, i), gb = gain(b, h);
        if (what == 1) return (ga + gb) / 2;
        return ga < gb ? a : gb < ga ? b : Math.min(a, b);
    }

    int cry(int b, int what) {
        if (noBuyer(b) || what < 0 || what > 1) return -1;
        int best = -2, most = 0;
        for (int shape = 0; shape < 100; shape++) {
            boolean candidate = false;
            for (int h : s.has(b)) candidate |= s.halves.get(h)[1] == shape && s.halves.get(h)[4] == 0;
            if (!candidate) continue;
            TreeSet<Integer> fitting = new TreeSet<>();
            for (int u : unseen(b)) {
                for (int h : s.has(b)) if (s.halves.get(h)[1] == shape && s.fit(h, u) == 2) fitting.add(u);
            }
            if (best == -2 || fitting.size() > most) {
                best = shape;
                most = fitting.size();
            }
        }
        return what == 0 ? best : most;
    }

    int bring(int rule, int h, int what) {
        if (rule < 0 || rule >= rules.size() || noHalf(h) || what < 0 || what > 1) return -1;
        int best = -2, bestHour = 1000;
        for (int stall = 0; stall < s.stalls; stall++) {
            if (s.halves.get(h)[0] == stall) continue;
            State t = s.copy();
            t.halves.get(h)[0] = stall;
            while (t.hour < t.dusk && t.halves.get(h)[0] < 100) {
                int now = t.hour;
                hour(t, rules.get(rule), 0, false);
                if (t.halves.get(h)[0] >= 100 && now < bestHour) {
                    best = stall;
                    bestHour = now;
                }
            }
        }
        return best == -2 ? -2 : what == 0 ? best : bestHour;
    }

    int trial(int a, int b, boolean fitted) {
        if (a == -1) {
            s.trials.clear();
            return 0;
        }
        if (noHalf(a) || noHalf(b) || a == b || s.trials.size() == 12) return -2;
        s.trials.add(new int[] {a, b, fitted ? 1 : 0});
        return s.trials.size();
    }

    int forgers(int what) {
        if (s.stalls == 0 || what < 0 || what > 1) return -1;
        State t = s.copy();
        int n = t.halves.size();
        for (int size = 0; size <= n; size++) {
            int least = -2, all = 0;
            for (int set = 0; set < 1 << n; set++) {
                if (Integer.bitCount(set) != size) continue;
                for (int h = 0; h < n; h++) t.halves.get(h)[4] = set >> h & 1;
                boolean so = true;
                for (int[] trial : t.trials) so &= (t.fit(trial[0], trial[1]) == 2) == (trial[2] == 1);
                if (!so) continue;
                if (least < 0) least = set;
                all |= set;
            }
            if (least >= 0) return what == 0 ? least : (1 << n) - 1 - all;
        }
        return what == 0 ? -2 : 0;
    }

    int seed(int x) {
        if (x < 0) return -1;
        int was = (int) s.x;
        s.x = x;
        return was;
    }

    int fairs(int rule, int m, int p, int what) {
        if (s.stalls == 0 || rule < 0 || rule >= rules.size() || m < 1 || m > 10) return -1;
        if (p < 0 || p > 100 || what < 0 || what > 1) return -1;
        long x = s.x;
        int bought = 0, worth = 0;
        for (int i = 0; i < m; i++) {
            State t = s.copy();
            t.x = x;
            while (t.hour < t.dusk) bought += hour(t, rules.get(rule), p, true);
            x = t.x;
            for (int b = 0; b < t.buyers.size(); b++) worth += t.worth(t.has(b));
        }
        return what == 0 ? bought : worth;
    }

    int count(int what) {
        int at = 0;
        for (int[] h : s.halves) if (h[0] < 100) at++;
        int[] all = {s.stalls, s.halves.size(), s.buyers.size(), rules.size(), s.hour, s.stalls == 0 ? -1 : s.left(),
            at, s.trials.size(), past.size(), (int) s.x, tape.length()};
        return what < 0 || what > 10 ? -1 : all[what];
    }

    int image(int k) {
        if (k < 0 || k > 3) return -1;
        images[k] = s.copy();
        return s.hour;
    }

    int back(int k) {
        if (k < 0 || k > 3 || images[k] == null) return -1;
        s = images[k].copy();
        past.clear();
        return s.hour;
    }
}
