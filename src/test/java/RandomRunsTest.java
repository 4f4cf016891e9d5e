import java.util.Random;

/** Runs of calls drawn from fixed seeds, the class held against the Model answer by answer. */
public final class RandomRunsTest {
    private static final int RUNS = 500;
    private static final int CALLS = 300;

    private final Random random;
    private final HalfFair fair = new HalfFair();
    private final Model model = new Model();
    private final int longest;
    private int wrong;

    private RandomRunsTest(long seed) {
        random = new Random(seed);
        // the Model tries each walk out, so that only short ones can be held against it
        longest = seed % 4 == 0 ? 24 : 4;
    }

    public static void main(String[] args) {
        int wrong = 0;
        for (int seed = 0; seed < RUNS; seed++) {
            wrong += new RandomRunsTest(seed).calls(seed);
            if (wrong > 20) {
                break;
            }
        }
        System.out.println(RUNS + " runs, " + wrong + " answers not as the Model's");
        if (wrong != 0) {
            System.exit(1);
        }
    }

    private int in(int from, int to) {
        return from + random.nextInt(to - from + 1);
    }

    /** Mostly what is there, now and then what is not. */
    private int some(int many) {
        return in(0, 19) == 0 ? (in(0, 1) == 0 ? -1 : in(many, many + 2)) : in(0, Math.max(many - 1, 0));
    }

    private String fairText() {
        int stalls = in(2, 8);
        int shapes = in(1, 4);
        StringBuilder text = new StringBuilder("stalls " + stalls + " " + in(0, 7));
        int halves = in(0, 12);
        for (int i = 0; i < halves; i++) {
            text.append(";half ").append(in(0, stalls - 1)).append(' ').append(in(1, shapes) * in(1, 3));
            text.append(' ').append(in(0, 1)).append(' ').append(in(1, in(0, 3) == 0 ? 99 : 9));
        }
        int buyers = in(0, 9) == 0 ? 0 : in(1, 4);
        for (int i = 0; i < buyers; i++) {
            text.append(";buyer ").append(in(0, 40)).append(' ').append(in(0, stalls - 1));
        }
        for (int i = 0; i < 2 && halves > 0; i++) {
            text.append(in(0, 2) == 0 ? ";forged " + in(0, halves - 1) : "");
        }
        for (int i = 0; i < 2 && buyers > 1; i++) {
            int one = in(1, buyers - 1);
            text.append(in(0, 2) == 0 ? ";club " + one + " " + in(0, one - 1) : "");
        }
        text.append(in(0, 2) > 0 ? ";near " + in(0, 3) : "");
        text.append(in(0, 4) > 0 || longest < 12 ? ";dusk " + in(1, longest) + " " + in(1, 9) : "");
        text.append(in(0, 1) == 0 ? ";hear " + in(0, 4) : "");
        return text.toString();
    }

    private String sum() {
        String[] words = {"buyer", "purse", "spot", "hour", "left", "has", "half", "shape", "side", "price", "fits",
            "nearly", "known"};
        StringBuilder text = new StringBuilder();
        int many = in(1, 4);
        for (int i = 0; i < many; i++) {
            text.append(i == 0 ? "" : " " + "+-*/%+-*".charAt(in(0, 7)) + " ");
            text.append(in(0, 2) == 0 ? Integer.toString(in(0, in(0, 9) == 0 ? 99999 : 9)) : words[in(0, 12)]);
        }
        return text.toString();
    }

    private String fact(int depth) {
        int kind = in(0, 9);
        if (kind == 0 && depth < 11) {
            return "not " + fact(depth + 1);
        }
        if (kind <= 2 && depth < 11) {
            return "[" + test(depth + 1) + "]";
        }
        return sum() + new String[] {"<", "<=", "=", ">=", ">"}[in(0, 4)] + sum();
    }

    private String test(int depth) {
        StringBuilder text = new StringBuilder(fact(depth));
        for (int i = in(0, 2); i > 0; i--) {
            text.append(in(0, 1) == 0 ? " or " : " and ").append(fact(depth));
        }
        return text.toString();
    }

    private String ruleText() {
        StringBuilder text = new StringBuilder();
        int many = in(0, 9) == 0 ? in(1, 14) : in(1, 5);
        for (int i = 0; i < many; i++) {
            text.append(i == 0 ? "" : ";").append(in(0, 1) == 0 ? "buy " : "go ");
            text.append(in(0, 2) == 0 ? new String[] {"1", "0 - 1", "hour % 3 - 1"}[in(0, 2)] : sum());
            text.append(in(0, 1) == 0 ? " if " + test(0) : "");
        }
        return text.toString();
    }

    private String spoilt(String text) {
        if (text.isEmpty() || in(0, 2) > 0) {
            return text;
        }
        int at = in(0, text.length() - 1);
        String signs = " ;[]<>=+-*/%0123456789abfilnotrsy" + (char) 0 + (char) 200 + "A";
        char sign = signs.charAt(in(0, signs.length() - 1));
        switch (in(0, 3)) {
            case 0:
                return text.substring(0, at);
            case 1:
                return text.substring(0, at) + sign + text.substring(at);
            case 2:
                return text.substring(0, at) + text.substring(at + 1);
            default:
                return text.substring(0, at) + sign + text.substring(at + 1);
        }
    }

    private void same(String call, long got, long want) {
        if (got != want) {
            wrong++;
            System.out.println(call + " answered " + got + ", the Model " + want);
        }
    }

    private void tell(String text) {
        same("end(0)", fair.end(0), model.end(0));
        for (int at = 0; at < text.length(); at += 20) {
            int[] f = Check.fiveOf(text, at);
            same("feed", fair.feed(f[0], f[1], f[2], f[3], f[4]), model.feed(f));
        }
        same("end", fair.end(text.length()), model.end(text.length()));
    }

    private void tellFair() {
        String text = spoilt(fairText());
        tell(text);
        same("fair() of " + text, fair.fair(), model.fair());
    }

    private void tellRule() {
        String text = spoilt(ruleText());
        tell(text);
        same("rule() of " + text, fair.rule(), model.rule());
    }

    private int calls(int seed) {
        tellFair();
        tellRule();
        tellRule();
        for (int i = 0; i < CALLS && wrong == 0; i++) {
            call();
            for (int what = -1; what < 12 && i % 10 == 0; what++) {
                same("count(" + what + ")", fair.count(what), model.count(what));
            }
        }
        if (wrong > 0) {
            System.out.println("in run " + seed);
        }
        return wrong;
    }

    private void call() {
        int halves = model.s.halves.size();
        int buyers = model.s.buyers.size();
        int h = some(halves);
        int i = some(halves);
        int b = some(buyers);
        int c = some(buyers);
        int r = some(model.rules.size());
        if (in(0, 1) == 0 && b >= 0 && b < buyers && !model.s.has(b).isEmpty()) {
            h = model.s.has(b).get(0);
        }
        if (in(0, 1) == 0 && c >= 0 && c < buyers && !model.s.has(c).isEmpty()) {
            i = model.s.has(c).get(0);
        }
        int kind = in(0, 27);
        String told = kind + " (" + h + " " + i + " " + b + " " + c + " " + r + ")";
        if (kind < 14) {
            act(kind, told, new int[] {h, i, b, c, r});
        } else {
            ask(kind, told, new int[] {h, i, b, c, r});
        }
    }

    private void act(int kind, String told, int[] a) {
        int n = in(-1, 101);
        switch (kind) {
            case 0: same("go " + told, fair.go(a[2], n % 3), model.go(a[2], n % 3)); break;
            case 1: case 2: case 3: same("buy " + told, fair.buy(a[2], a[0]), model.buy(a[2], a[0])); break;
            case 4: same("shout " + told, fair.shout(a[2], n % 10), model.shout(a[2], n % 10)); break;
            case 5: case 6: same("swap " + told, fair.swap(a[2], a[0], a[3], a[1]) ? 1 : 0,
                model.swap(a[2], a[0], a[3], a[1]) ? 1 : 0); break;
            case 7: same("giveUp " + told, fair.giveUp(a[2], a[0]), model.giveUp(a[2], a[0])); break;
            case 8: same("undo " + told, fair.undo(), model.undo()); break;
            case 9: if (n < 15) same("run " + told, fair.run(a[4], n % 5), model.run(a[4], n % 5)); break;
            case 10: same("trial " + told, fair.trial(a[0], a[1], n < 70), model.trial(a[0], a[1], n < 70)); break;
            case 11: same("seed " + told, fair.seed(n), model.seed(n)); break;
            case 12: same("image " + told, fair.image(n % 5), model.image(n % 5)); break;
            default:
                if (n < 40) {
                    same("back " + told, fair.back(n % 5), model.back(n % 5));
                } else if (n < 60) {
                    tellFair();
                } else if (n < 80) {
                    tellRule();
                }
        }
    }

    private void ask(int kind, String told, int[] a) {
        int n = in(-1, 6);
        int set = random.nextInt() & (1 << model.s.halves.size()) - 1 & random.nextInt();
        switch (kind) {
            case 14: same("half " + n + told, fair.half(a[0], n), model.half(a[0], n)); break;
            case 15: same("fit " + told, fair.fit(a[0], a[1]), model.fit(a[0], a[1])); break;
            case 16: case 17: same("buyer " + n + told, fair.buyer(a[2], n), model.buyer(a[2], n)); break;
            case 18: same("spot " + n + told, fair.spot(n, 17 * n), model.spot(n, 17 * n)); break;
            case 19: same("worth " + set, fair.worth(set + n / 6), model.worth(set + n / 6)); break;
            case 20: same("with " + set + told, fair.with(set, a[0]), model.with(set, a[0])); break;
            case 21:
                if (model.s.left() < 5 || model.s.left() > 12) {
                    same("walk " + n % 4 + told, fair.walk(a[2], n % 4), model.walk(a[2], n % 4));
                }
                break;
            case 22: same("chance " + n % 3 + told, fair.chance(a[2], a[0], n % 3), model.chance(a[2], a[0], n % 3)); break;
            case 23: same("yields " + n % 3 + told, fair.yields(a[2], a[0], a[3], a[1], n % 3),
                model.yields(a[2], a[0], a[3], a[1], n % 3)); break;
            case 24: same("cry " + n % 3 + told, fair.cry(a[2], n % 3), model.cry(a[2], n % 3)); break;
            case 25: same("bring " + n % 3 + told, fair.bring(a[4], a[0], n % 3), model.bring(a[4], a[0], n % 3)); break;
            case 26: same("forgers " + n % 3, fair.forgers(n % 3), model.forgers(n % 3)); break;
            default: same("fairs " + told, fair.fairs(a[4], n, 20 * n, n % 3), model.fairs(a[4], n, 20 * n, n % 3));
        }
    }
}
