import java.util.Arrays;

/** A fair of halves, told in a language; DOC.md numbers its promises. */
public final class HalfFair {
    public static final int NONE = -1;

    private static final int MOST_HALVES = 12;
    private static final int MOST_BUYERS = 4;
    private static final int MOST_STALLS = 8;
    private static final int MOST_RULES = 6;
    private static final int MOST_IMAGES = 4;
    private static final int MOST_UNDONE = 20;
    private static final int MOST_BYTES = 400;
    private static final int LAST_HOUR = 99;
    private static final int LAST_SHAPE = 99;
    private static final int MOST_RUN = 48;
    private static final int LONGEST_WALK = 12;
    private static final int LONGEST_FAIR = 24;
    private static final int MOST_FAIRS = 10;
    private static final int FIRST_OWNER = 100;
    private static final int MISSING = -2;

    private final Tape tape = new Tape();
    private final FairReader fairReader = new FairReader();
    private final RuleReader ruleReader = new RuleReader();
    private final Rule[] rules = new Rule[MOST_RULES];
    private int ruleCount;
    private Told told = new Told();
    private final Scene scene = new Scene();
    private final Scene spare = new Scene();
    private final Scene[] past = new Scene[MOST_UNDONE];
    private int pastFirst;
    private int pastCount;
    private final Trials trials = new Trials();
    private final Image[] images = new Image[MOST_IMAGES];
    private final Pairs pairs = new Pairs();
    private final Walker walker = new Walker();
    private final Market market = new Market();
    private int x;

    public HalfFair() {
        for (int i = 0; i < MOST_UNDONE; i++) {
            past[i] = new Scene();
        }
    }

    public int feed(int a, int b, int c, int d, int e) {
        if (tape.length + 20 > MOST_BYTES) {
            return NONE;
        }
        tape.append(a);
        tape.append(b);
        tape.append(c);
        tape.append(d);
        tape.append(e);
        return tape.length;
    }

    public int end(int n) {
        if (n < 0 || n > tape.length) {
            return NONE;
        }
        tape.length = n;
        return n;
    }

    public int fair() {
        Told read = fairReader.readFair(tape);
        if (tape.fault != 0) {
            return MISSING - tape.fault;
        }
        tape.length = 0;
        told = read;
        scene.open(told);
        pairs.startOn(told);
        trials.size = 0;
        forgetPast();
        return told.halves;
    }

    public int rule() {
        if (ruleCount >= MOST_RULES) {
            return NONE;
        }
        Rule read = ruleReader.readRule(tape);
        tape.length = 0;
        if (tape.fault != 0) {
            return MISSING - tape.fault;
        }
        rules[ruleCount] = read;
        ruleCount++;
        return ruleCount - 1;
    }

    public int half(int half, int what) {
        if (!told.isHalf(half)) {
            return NONE;
        }
        switch (what) {
            case 0:
                return told.shape[half];
            case 1:
                return told.side[half];
            case 2:
                return told.priceAt(half, scene.hour);
            case 3:
                return scene.whereIs(half);
            case 4:
                return (told.forged >> half) & 1;
            default:
                return NONE;
        }
    }

    public int fit(int one, int other) {
        if (!told.isHalf(one) || !told.isHalf(other) || one == other) {
            return NONE;
        }
        return told.fitOf(one, other);
    }

    public int buyer(int buyer, int what) {
        if (!told.isBuyer(buyer)) {
            return NONE;
        }
        switch (what) {
            case 0:
                return scene.purse[buyer];
            case 1:
                return scene.spot[buyer];
            case 2:
                return scene.has[buyer];
            case 3:
                return scene.sawBy(told.club[buyer]);
            case 4:
                return told.club[buyer];
            case 5:
                return pairs.mostOf(scene.has[buyer]);
            default:
                return NONE;
        }
    }

    public int spot(int stall, int hours) {
        if (stall < 0 || stall >= told.stalls || hours < 0 || hours > LAST_HOUR) {
            return NONE;
        }
        return told.spotOf(stall, scene.hour + hours);
    }

    public int go(int buyer, int way) {
        if (!told.isBuyer(buyer) || way < -1 || way > 1 || scene.hour >= LAST_HOUR) {
            return NONE;
        }
        rememberScene();
        scene.spot[buyer] = told.beside(scene.spot[buyer], way);
        scene.passHour(told);
        return scene.hour;
    }

    public int buy(int buyer, int half) {
        if (!told.isBuyer(buyer) || !told.isHalf(half)) {
            return NONE;
        }
        int stall = told.stallAt(scene.spot[buyer], scene.hour);
        int price = told.priceAt(half, scene.hour);
        if ((scene.at[stall] >> half & 1) == 0 || scene.purse[buyer] < price) {
            return NONE;
        }
        rememberScene();
        scene.sell(half, stall, buyer, price);
        return scene.purse[buyer];
    }

    public int shout(int buyer, int shape) {
        if (!told.isBuyer(buyer) || shape < 0 || shape > LAST_SHAPE || scene.purse[buyer] < 1) {
            return NONE;
        }
        rememberScene();
        int before = Integer.bitCount(scene.seen[buyer]);
        scene.purse[buyer]--;
        scene.seen[buyer] |= scene.withinHearing(told, buyer) & told.shapedLike(shape);
        return Integer.bitCount(scene.seen[buyer]) - before;
    }

    public boolean swap(int one, int half, int other, int its) {
        if (!isTheirs(one, half) || !isTheirs(other, its) || one == other) {
            return false;
        }
        if (scene.spot[one] != scene.spot[other]) {
            return false;
        }
        rememberScene();
        int both = 1 << half | 1 << its;
        scene.has[one] ^= both;
        scene.has[other] ^= both;
        scene.seen[one] |= 1 << its;
        scene.seen[other] |= 1 << half;
        return true;
    }

    public int giveUp(int buyer, int half) {
        if (!isTheirs(buyer, half)) {
            return NONE;
        }
        rememberScene();
        scene.has[buyer] &= ~(1 << half);
        scene.at[told.stallAt(scene.spot[buyer], scene.hour)] |= 1 << half;
        scene.purse[buyer] += told.priceAt(half, scene.hour) / 2;
        return scene.purse[buyer];
    }

    public int undo() {
        if (pastCount <= 0) {
            return NONE;
        }
        pastCount--;
        scene.copyFrom(past[(pastFirst + pastCount) % MOST_UNDONE]);
        return pastCount;
    }

    public int run(int rule, int n) {
        if (!isFair() || !isRule(rule) || n < 1 || n > MOST_RUN || scene.hour + n > LAST_HOUR) {
            return NONE;
        }
        market.openFor(told, scene, rules[rule]);
        for (int i = 0; i < n; i++) {
            market.passByRule(NONE);
        }
        forgetPast();
        return scene.hour;
    }

    public int worth(int set) {
        return isSet(set) ? pairs.mostOf(set) : NONE;
    }

    public int with(int set, int half) {
        if (!isSet(set) || !told.isHalf(half) || (set >> half & 1) == 0) {
            return MISSING;
        }
        return pairs.partnerOf(half, set);
    }

    public int walk(int buyer, int what) {
        if (!told.isBuyer(buyer) || what < 0 || what > 2) {
            return -3;
        }
        int hours = told.left(scene.hour);
        if (hours > LONGEST_WALK) {
            return -4;
        }
        if (what == 1 && hours == 0) {
            return MISSING;
        }
        walker.seek(told, scene, pairs, buyer);
        switch (what) {
            case 0:
                return walker.most;
            case 1:
                return walker.firstGoing();
            default:
                return walker.bought;
        }
    }

    public int chance(int buyer, int half, int part) {
        if (!told.isBuyer(buyer) || !told.isHalf(half) || part < 0 || part > 1) {
            return NONE;
        }
        int unseen = unseenBy(buyer);
        int below = Integer.bitCount(unseen);
        int above = Integer.bitCount(unseen & told.fitting[half]);
        if (above == 0) {
            return part;
        }
        int common = commonDivisor(above, below);
        return (part == 0 ? above : below) / Math.max(common, 1);
    }

    public int yields(int one, int half, int other, int its, int what) {
        if (!isTheirs(one, half) || !isTheirs(other, its) || one == other || what < 0 || what > 1) {
            return NONE;
        }
        if (told.fitOf(half, its) == 0) {
            return NONE;
        }
        int oneGives = gainOf(one, its);
        int otherGives = gainOf(other, half);
        if (what == 1) {
            return (oneGives + otherGives) / 2;
        }
        if (oneGives == otherGives) {
            return Math.min(one, other);
        }
        return oneGives < otherGives ? one : other;
    }

    public int cry(int buyer, int what) {
        if (!told.isBuyer(buyer) || what < 0 || what > 1) {
            return NONE;
        }
        int unseen = unseenBy(buyer);
        int honest = scene.has[buyer] & ~told.forged;
        int bestShape = MISSING;
        int most = 0;
        for (int h = 0; h < told.halves; h++) {
            if ((honest >> h & 1) == 0) {
                continue;
            }
            int shape = told.shape[h];
            int fitting = Integer.bitCount(unseen & fittingShape(buyer, shape));
            if (bestShape < 0 || fitting > most || fitting == most && shape < bestShape) {
                bestShape = shape;
                most = fitting;
            }
        }
        return what == 0 ? bestShape : most;
    }

    public int bring(int rule, int half, int what) {
        if (!isRule(rule) || !told.isHalf(half) || what < 0 || what > 1) {
            return NONE;
        }
        int now = scene.whereIs(half);
        int bestStall = MISSING;
        int bestHour = MISSING;
        for (int stall = 0; stall < told.stalls; stall++) {
            int hour = stall == now ? MISSING : hourSold(rules[rule], half, stall);
            if (hour >= 0 && (bestHour < 0 || hour < bestHour)) {
                bestStall = stall;
                bestHour = hour;
            }
        }
        return what == 0 ? bestStall : bestHour;
    }

    public int trial(int one, int other, boolean fitted) {
        if (one == NONE) {
            trials.size = 0;
            return 0;
        }
        if (!told.isHalf(one) || !told.isHalf(other) || one == other || trials.isFull()) {
            return MISSING;
        }
        trials.add(one, other, fitted);
        return trials.size;
    }

    public int forgers(int what) {
        if (!isFair() || what < 0 || what > 1) {
            return NONE;
        }
        trials.seekForgers(told);
        return what == 0 ? trials.fewest : trials.honest;
    }

    public int seed(int x) {
        if (x < 0) {
            return NONE;
        }
        int before = this.x;
        this.x = x;
        return before;
    }

    public int fairs(int rule, int m, int p, int what) {
        if (!isFair() || !isRule(rule) || m < 1 || m > MOST_FAIRS) {
            return NONE;
        }
        if (p < 0 || p > 100 || what < 0 || what > 1) {
            return NONE;
        }
        int hours = hoursByRule();
        int worth = 0;
        market.openFor(told, spare, rules[rule]);
        market.x = x;
        for (int time = 0; time < m; time++) {
            spare.copyFrom(scene);
            for (int i = 0; i < hours; i++) {
                market.passByRule(p);
            }
            for (int b = 0; b < told.buyers; b++) {
                worth += pairs.mostOf(spare.has[b]);
            }
        }
        return what == 0 ? market.bought : worth;
    }

    public int count(int what) {
        switch (what) {
            case 0:
                return told.stalls;
            case 1:
                return told.halves;
            case 2:
                return told.buyers;
            case 3:
                return ruleCount;
            case 4:
                return scene.hour;
            case 5:
                return isFair() ? told.left(scene.hour) : NONE;
            case 6:
                return Integer.bitCount(scene.atStalls());
            case 7:
                return trials.size;
            case 8:
                return pastCount;
            case 9:
                return x;
            case 10:
                return tape.length;
            default:
                return NONE;
        }
    }

    public int image(int k) {
        if (k < 0 || k >= MOST_IMAGES) {
            return NONE;
        }
        Image kept = images[k];
        if (kept == null) {
            kept = new Image();
            images[k] = kept;
        }
        kept.told = told;
        kept.scene.copyFrom(scene);
        kept.trials.copyFrom(trials);
        kept.x = x;
        return scene.hour;
    }

    public int back(int k) {
        Image kept = k < 0 || k >= MOST_IMAGES ? null : images[k];
        if (kept == null || kept.told == null) {
            return NONE;
        }
        told = kept.told;
        scene.copyFrom(kept.scene);
        trials.copyFrom(kept.trials);
        x = kept.x;
        pairs.startOn(told);
        forgetPast();
        return scene.hour;
    }

    private boolean isFair() {
        return told.stalls > 0;
    }

    private boolean isRule(int rule) {
        return rule >= 0 && rule < ruleCount && rules[rule] != null;
    }

    private boolean isSet(int set) {
        return isFair() && set >= 0 && set < 1 << told.halves;
    }

    private boolean isTheirs(int buyer, int half) {
        return told.isBuyer(buyer) && told.isHalf(half) && (scene.has[buyer] >> half & 1) == 1;
    }

    private void rememberScene() {
        past[(pastFirst + pastCount) % MOST_UNDONE].copyFrom(scene);
        if (pastCount < MOST_UNDONE) {
            pastCount++;
        } else {
            pastFirst = (pastFirst + 1) % MOST_UNDONE;
        }
    }

    private void forgetPast() {
        pastFirst = 0;
        pastCount = 0;
    }

    private int unseenBy(int buyer) {
        return scene.atStalls() & ~scene.sawBy(told.club[buyer]);
    }

    private static int commonDivisor(int a, int b) {
        int divisor = 1;
        for (int d = 2; d <= a; d++) {
            if (a % d == 0 && b % d == 0) {
                divisor = d;
            }
        }
        return divisor;
    }

    private int gainOf(int buyer, int half) {
        int has = scene.has[buyer];
        return pairs.mostOf(has | 1 << half) - pairs.mostOf(has);
    }

    /** All HALVES that FIT one of a BUYER's with this SHAPE. */
    private int fittingShape(int buyer, int shape) {
        int fitting = 0;
        for (int h = 0; h < told.halves; h++) {
            if ((scene.has[buyer] >> h & 1) == 1 && told.shape[h] == shape) {
                fitting |= told.fitting[h];
            }
        }
        return fitting;
    }

    private int hoursByRule() {
        return Math.min(told.left(scene.hour), LONGEST_FAIR);
    }

    /** The HOUR at which a HALF brought to a STALL now would be sold, MISSING if not till dusk. */
    private int hourSold(Rule rule, int half, int stall) {
        int hours = hoursByRule();
        spare.copyFrom(scene);
        spare.moveTo(half, stall);
        market.openFor(told, spare, rule);
        for (int i = 0; i < hours; i++) {
            int hour = spare.hour;
            market.passByRule(NONE);
            if ((spare.atStalls() >> half & 1) == 0) {
                return hour;
            }
        }
        return MISSING;
    }

    /** What the text of a FAIR tells; it never changes once it is read, so IMAGES share it. */
    private static final class Told {
        int stalls;
        int shift;
        int halves;
        int buyers;
        int near;
        int dusk = 12;
        int duskPrice = 5;
        int hear = 1;
        int forged;
        final int[] stall = new int[MOST_HALVES];
        final int[] shape = new int[MOST_HALVES];
        final int[] side = new int[MOST_HALVES];
        final int[] price = new int[MOST_HALVES];
        final int[] purse = new int[MOST_BUYERS];
        final int[] spot = new int[MOST_BUYERS];
        final int[] club = new int[MOST_BUYERS];
        final int[] fitting = new int[MOST_HALVES];
        final int[] nearly = new int[MOST_HALVES];

        boolean isHalf(int half) {
            return half >= 0 && half < halves;
        }

        boolean isBuyer(int buyer) {
            return buyer >= 0 && buyer < buyers;
        }

        int spotOf(int stall, int hour) {
            return stalls <= 0 ? 0 : (stall + hour * shift) % stalls;
        }

        int stallAt(int spot, int hour) {
            return stalls <= 0 ? 0 : Math.floorMod(spot - hour * shift, stalls);
        }

        int beside(int spot, int way) {
            return stalls <= 0 ? 0 : Math.floorMod(spot + way, stalls);
        }

        int far(int one, int other) {
            int apart = Math.abs(one - other);
            return Math.min(apart, stalls - apart);
        }

        int left(int hour) {
            return Math.max(dusk - hour, 0);
        }

        int priceAt(int half, int hour) {
            return hour >= dusk ? duskPrice : price[half];
        }

        int fitOf(int one, int other) {
            if ((fitting[one] >> other & 1) == 1) {
                return 2;
            }
            return nearly[one] >> other & 1;
        }

        /** As if no HALF were FORGED. */
        boolean fitsByShape(int one, int other) {
            return side[one] != side[other] && shape[one] == shape[other];
        }

        int shapedLike(int likeness) {
            int alike = 0;
            for (int h = 0; h < halves; h++) {
                if (Math.abs(shape[h] - likeness) <= near) {
                    alike |= 1 << h;
                }
            }
            return alike;
        }

        void joinClubs(int one, int other) {
            int joined = club[one] | club[other];
            for (int b = 0; b < buyers; b++) {
                if ((joined >> b & 1) == 1) {
                    club[b] = joined;
                }
            }
        }

        /** Near and forged may be told behind the HALVES: so only once the text is read. */
        void matchHalves() {
            for (int a = 0; a < halves; a++) {
                for (int b = 0; b < halves; b++) {
                    if (a == b) {
                        continue;
                    }
                    boolean anyForged = (forged & (1 << a | 1 << b)) != 0;
                    if (anyForged || fitsByShape(a, b)) {
                        fitting[a] |= 1 << b;
                    } else if (side[a] != side[b] && Math.abs(shape[a] - shape[b]) <= near) {
                        nearly[a] |= 1 << b;
                    }
                }
            }
        }
    }

    /** All that ACTS change; sets of HALVES are bits. */
    private static final class Scene {
        int hour;
        final int[] purse = new int[MOST_BUYERS];
        final int[] spot = new int[MOST_BUYERS];
        final int[] seen = new int[MOST_BUYERS];
        final int[] has = new int[MOST_BUYERS];
        final int[] at = new int[MOST_STALLS];

        void copyFrom(Scene other) {
            hour = other.hour;
            System.arraycopy(other.purse, 0, purse, 0, MOST_BUYERS);
            System.arraycopy(other.spot, 0, spot, 0, MOST_BUYERS);
            System.arraycopy(other.seen, 0, seen, 0, MOST_BUYERS);
            System.arraycopy(other.has, 0, has, 0, MOST_BUYERS);
            System.arraycopy(other.at, 0, at, 0, MOST_STALLS);
        }

        void open(Told told) {
            hour = 0;
            Arrays.fill(at, 0);
            for (int h = 0; h < told.halves; h++) {
                at[told.stall[h]] |= 1 << h;
            }
            for (int b = 0; b < MOST_BUYERS; b++) {
                purse[b] = told.purse[b];
                spot[b] = told.spot[b];
                seen[b] = 0;
                has[b] = 0;
            }
            look(told);
        }

        void passHour(Told told) {
            hour++;
            look(told);
        }

        private void look(Told told) {
            for (int b = 0; b < told.buyers; b++) {
                seen[b] |= at[told.stallAt(spot[b], hour)];
            }
        }

        void sell(int half, int stall, int buyer, int price) {
            at[stall] &= ~(1 << half);
            has[buyer] |= 1 << half;
            purse[buyer] -= price;
        }

        /** Unlike giving up: nobody pays, and nobody sees it. */
        void moveTo(int half, int stall) {
            for (int s = 0; s < MOST_STALLS; s++) {
                at[s] &= ~(1 << half);
            }
            for (int b = 0; b < MOST_BUYERS; b++) {
                has[b] &= ~(1 << half);
            }
            at[stall] |= 1 << half;
        }

        int atStalls() {
            int all = 0;
            for (int s = 0; s < MOST_STALLS; s++) {
                all |= at[s];
            }
            return all;
        }

        int whereIs(int half) {
            for (int s = 0; s < MOST_STALLS; s++) {
                if ((at[s] >> half & 1) == 1) {
                    return s;
                }
            }
            for (int b = 0; b < MOST_BUYERS; b++) {
                if ((has[b] >> half & 1) == 1) {
                    return FIRST_OWNER + b;
                }
            }
            return NONE;
        }

        int sawBy(int club) {
            int saw = 0;
            for (int b = 0; b < MOST_BUYERS; b++) {
                if ((club >> b & 1) == 1) {
                    saw |= seen[b];
                }
            }
            return saw;
        }

        int withinHearing(Told told, int buyer) {
            int heard = 0;
            for (int s = 0; s < told.stalls; s++) {
                if (told.far(told.spotOf(s, hour), spot[buyer]) <= told.hear) {
                    heard |= at[s];
                }
            }
            return heard;
        }
    }

    /** WORTH of sets: by the least HALF of a set and whom it is with, the rest likewise. */
    private static final class Pairs {
        private static final int FIT_WORTH = 40;
        private static final int NEARLY_WORTH = 20;
        private static final int ALONE_WORTH = 9;
        private static final int SETS = 1 << MOST_HALVES;

        private Told told;
        // 0 stands for "not known yet": no set but the empty one is worth 0
        private final int[] known = new int[SETS];

        void startOn(Told newlyTold) {
            told = newlyTold;
            Arrays.fill(known, 0);
        }

        int mostOf(int set) {
            return bestOf(set & SETS - 1, 0);
        }

        private int bestOf(int set, int depth) {
            // without a FAIR there is nothing but the empty set
            if (set == 0 || told == null || depth > MOST_HALVES) {
                return 0;
            }
            if (known[set] != 0) {
                return known[set];
            }
            int rest = set & set - 1;
            int first = Integer.bitCount((set ^ rest) - 1);
            int best = ALONE_WORTH + bestOf(rest, depth + 1);
            int partners = rest & (told.fitting[first] | told.nearly[first]);
            for (int h = first + 1; h < MOST_HALVES; h++) {
                if ((partners >> h & 1) == 1) {
                    best = Math.max(best, pairWorth(first, h) + bestOf(rest & ~(1 << h), depth + 1));
                }
            }
            known[set] = best;
            return best;
        }

        private int pairWorth(int one, int other) {
            return (told.fitting[one] >> other & 1) == 1 ? FIT_WORTH : NEARLY_WORTH;
        }

        int partnerOf(int half, int set) {
            int left = set & SETS - 1;
            for (int h = 0; h < MOST_HALVES; h++) {
                if ((left >> h & 1) == 0) {
                    continue;
                }
                int partner = firstPartner(h, left);
                if (h == half) {
                    return partner;
                }
                if (partner == half) {
                    return h;
                }
                left &= ~(1 << h);
                if (partner != NONE) {
                    left &= ~(1 << partner);
                }
            }
            return NONE;
        }

        /** With whom the least HALF of a set is: alone, if that loses nothing. */
        private int firstPartner(int first, int set) {
            int rest = set & ~(1 << first);
            int best = mostOf(set);
            if (ALONE_WORTH + mostOf(rest) == best) {
                return NONE;
            }
            int partners = rest & (told.fitting[first] | told.nearly[first]);
            for (int h = first + 1; h < MOST_HALVES; h++) {
                if ((partners >> h & 1) == 1 && pairWorth(first, h) + mostOf(rest & ~(1 << h)) == best) {
                    return h;
                }
            }
            return NONE;
        }
    }

    /**
     * WALKS till dusk. Nobody gains on the way, so what can be bought hangs on two things alone:
     * that all of it together can be paid, and that some walk comes by all its STALLS.
     */
    private static final class Walker {
        private static final int VISITS = 1 << MOST_STALLS;
        private static final int ANY_GOING = 7;

        // by the STALL one is at and the STALLS one was at: bits of first GOINGS that lead there
        private int[] here = new int[MOST_STALLS * VISITS];
        private int[] next = new int[MOST_STALLS * VISITS];
        // by STALLS: bits of first GOINGS from which one can come by all of them
        private final int[] ways = new int[VISITS];
        private final int[] stallOf = new int[MOST_HALVES];
        private Told told;
        private Pairs pairs;
        private int has;
        private int purse;
        private int bestWays;
        int most;
        int bought;

        void seek(Told newlyTold, Scene scene, Pairs newPairs, int buyer) {
            told = newlyTold;
            pairs = newPairs;
            has = scene.has[buyer];
            purse = scene.purse[buyer];
            most = NONE;
            bought = 0;
            bestWays = 0;
            Arrays.fill(ways, 0);
            int hours = told.left(scene.hour);
            for (int h = 0; h < told.halves; h++) {
                int where = scene.whereIs(h);
                stallOf[h] = hours > 0 && where < MOST_STALLS ? where : NONE;
            }
            if (hours > 0) {
                spread(told.stallAt(scene.spot[buyer], scene.hour), hours);
            }
            choose(0, 0, 0, 0);
        }

        int firstGoing() {
            if ((bestWays & 1) != 0) {
                return -1;
            }
            return (bestWays & 2) != 0 ? 0 : 1;
        }

        private void spread(int start, int hours) {
            Arrays.fill(here, 0);
            here[start * VISITS + (1 << start)] = ANY_GOING;
            // the last GOING leads to dusk, where nothing is bought
            for (int i = 1; i < hours; i++) {
                goOn(i == 1);
                int[] gone = here;
                here = next;
                next = gone;
            }
            int all = 1 << told.stalls;
            for (int q = 0; q < told.stalls; q++) {
                for (int visited = 0; visited < all; visited++) {
                    ways[visited] |= here[q * VISITS + visited];
                }
            }
            for (int s = 0; s < told.stalls; s++) {
                for (int visited = 0; visited < all; visited++) {
                    if ((visited >> s & 1) == 0) {
                        ways[visited] |= ways[visited | 1 << s];
                    }
                }
            }
        }

        private void goOn(boolean first) {
            Arrays.fill(next, 0);
            int all = 1 << told.stalls;
            for (int q = 0; q < told.stalls; q++) {
                for (int visited = 0; visited < all; visited++) {
                    int ledHere = here[q * VISITS + visited];
                    if (ledHere == 0) {
                        continue;
                    }
                    for (int g = 0; g < 3; g++) {
                        // the STALLS move on below the one who goes
                        int stall = told.beside(q, g - 1 - told.shift);
                        int index = stall * VISITS + (visited | 1 << stall);
                        next[index] |= first ? 1 << g : ledHere;
                    }
                }
            }
        }

        /** Each level takes or leaves one HALF, so that the number of HALVES bounds the depth. */
        private void choose(int half, int set, int cost, int needed) {
            if (half >= told.halves || half >= MOST_HALVES) {
                weigh(set, cost, needed);
                return;
            }
            choose(half + 1, set, cost, needed);
            if (stallOf[half] == NONE || cost + told.price[half] > purse) {
                return;
            }
            int stalls = needed | 1 << stallOf[half];
            if (ways[stalls] != 0) {
                choose(half + 1, set | 1 << half, cost + told.price[half], stalls);
            }
        }

        private void weigh(int set, int cost, int needed) {
            int value = pairs.mostOf(has | set) + purse - cost;
            if (value > most) {
                most = value;
                bought = set;
                bestWays = ways[needed];
            } else if (value == most) {
                bought = Math.min(bought, set);
                bestWays |= ways[needed];
            }
        }
    }

    private static final class Trials {
        private static final int MOST_TRIALS = 12;

        int size;
        int fewest;
        int honest;
        private final int[] pair = new int[MOST_TRIALS];
        private final int[] one = new int[MOST_TRIALS];
        private final int[] other = new int[MOST_TRIALS];
        private final boolean[] fitted = new boolean[MOST_TRIALS];

        boolean isFull() {
            return size >= MOST_TRIALS;
        }

        void add(int newOne, int newOther, boolean newFitted) {
            if (isFull()) {
                return;
            }
            one[size] = newOne;
            other[size] = newOther;
            fitted[size] = newFitted;
            size++;
        }

        void copyFrom(Trials from) {
            size = from.size;
            for (int i = 0; i < MOST_TRIALS; i++) {
                one[i] = from.one[i];
                other[i] = from.other[i];
                fitted[i] = from.fitted[i];
            }
        }

        /** Sets by bits upwards, so that the first of its size is the least. */
        void seekForgers(Told told) {
            fewest = MISSING;
            honest = 0;
            int pairs = gatherPairs(told);
            if (pairs < 0) {
                return;
            }
            int cleared = clearedByTrials();
            int size = MOST_HALVES + 1;
            int suspects = 0;
            for (int set = 0; set < 1 << told.halves; set++) {
                int many = Integer.bitCount(set);
                if ((set & cleared) != 0 || many > size || !hitsAll(set, pairs)) {
                    continue;
                }
                if (many < size) {
                    size = many;
                    fewest = set;
                    suspects = 0;
                }
                suspects |= set;
            }
            if (fewest >= 0) {
                honest = ~suspects & (1 << told.halves) - 1;
            }
        }

        /** Keeps the pairs of which one must be FORGED: how many; NONE if a TRIAL can't be so at all. */
        private int gatherPairs(Told told) {
            int pairs = 0;
            for (int i = 0; i < size; i++) {
                boolean byShape = told.fitsByShape(one[i], other[i]);
                if (byShape && !fitted[i]) {
                    return NONE;
                }
                if (fitted[i] && !byShape) {
                    pair[pairs] = 1 << one[i] | 1 << other[i];
                    pairs++;
                }
            }
            return pairs;
        }

        private int clearedByTrials() {
            int cleared = 0;
            for (int i = 0; i < size; i++) {
                if (!fitted[i]) {
                    cleared |= 1 << one[i] | 1 << other[i];
                }
            }
            return cleared;
        }

        private boolean hitsAll(int set, int pairs) {
            for (int i = 0; i < pairs; i++) {
                if ((set & pair[i]) == 0) {
                    return false;
                }
            }
            return true;
        }
    }

    private static final class Image {
        Told told;
        final Scene scene = new Scene();
        final Trials trials = new Trials();
        int x;
    }

    /** The TAPE, and a place on it from which it is read; the first fault is kept. */
    private static final class Tape {
        private static final int MOST_DIGITS = 5;

        final int[] bytes = new int[MOST_BYTES];
        int length;
        int place;
        int fault;

        void append(int number) {
            for (int shift = 24; shift >= 0 && length < MOST_BYTES; shift -= 8) {
                bytes[length] = number >> shift & 255;
                length++;
            }
        }

        void rewind() {
            place = 0;
            fault = 0;
        }

        boolean isSound() {
            return fault == 0;
        }

        void fail(int where, int kind) {
            if (fault == 0) {
                fault = 1 + 8 * where + kind;
            }
        }

        void skipBlanks() {
            while (place < length && bytes[place] == ' ') {
                place++;
            }
        }

        int peek() {
            return place >= 0 && place < length ? bytes[place] : NONE;
        }

        boolean take(char sign) {
            if (peek() != sign) {
                return false;
            }
            place++;
            return true;
        }

        /** Takes the sign that parts CLAUSES; what is neither that nor the end is a fault. */
        boolean takeNextClause() {
            skipBlanks();
            if (take(';')) {
                return true;
            }
            if (place < length) {
                fail(place, 0);
            }
            return false;
        }

        /** Takes a word: which of the list (each of its words ends in a blank); NONE, and the place stays. */
        int takeWord(String list) {
            skipBlanks();
            int wordStart = place;
            while (place < length && bytes[place] >= 'a' && bytes[place] <= 'z') {
                place++;
            }
            int index = 0;
            int at = wordStart;
            boolean alike = true;
            for (int i = 0; i < list.length(); i++) {
                if (list.charAt(i) != ' ') {
                    alike = alike && at < place && bytes[at] == list.charAt(i);
                    at++;
                } else if (alike && at == place) {
                    return index;
                } else {
                    index++;
                    at = wordStart;
                    alike = true;
                }
            }
            place = wordStart;
            return NONE;
        }

        /** A NUMBER from least to most; behind a fault what it answers means nothing. */
        int takeNumber(int least, int most) {
            skipBlanks();
            int start = place;
            int number = 0;
            while (place < length && bytes[place] >= '0' && bytes[place] <= '9') {
                if (place - start < MOST_DIGITS) {
                    number = number * 10 + bytes[place] - '0';
                }
                place++;
            }
            if (place == start) {
                fail(start, 0);
            } else if (place - start > MOST_DIGITS || number < least || number > most) {
                fail(start, 1);
            }
            return number;
        }
    }

    private static final class FairReader {
        private static final String KINDS = "stalls half forged buyer club near dusk hear ";
        private static final int STALLS = 0;
        private static final int HALF = 1;
        private static final int FORGED = 2;
        private static final int BUYER = 3;
        private static final int CLUB = 4;
        private static final int NEAR = 5;
        private static final int DUSK = 6;
        private static final int HEAR = 7;
        private static final int MOST_CLAUSES = 40;

        private Tape tape;
        private Told told;
        // bits of the kinds of CLAUSES told so far
        private int kindsTold;

        Told readFair(Tape text) {
            tape = text;
            told = new Told();
            kindsTold = 0;
            tape.rewind();
            boolean more = true;
            for (int clause = 0; clause <= MOST_CLAUSES && more && tape.isSound(); clause++) {
                readClause(clause);
                more = tape.isSound() && tape.takeNextClause();
            }
            told.matchHalves();
            return told;
        }

        private void readClause(int clause) {
            tape.skipBlanks();
            int start = tape.place;
            int kind = tape.takeWord(KINDS);
            if (kind < 0) {
                tape.fail(start, 0);
                return;
            }
            if (clause >= MOST_CLAUSES || isTooMany(kind)) {
                tape.fail(start, 4);
                return;
            }
            kindsTold |= 1 << kind;
            switch (kind) {
                case STALLS:
                    told.stalls = numberTold(2, MOST_STALLS);
                    told.shift = numberTold(0, 7);
                    break;
                case HALF:
                    readHalf();
                    break;
                case FORGED:
                    readForged();
                    break;
                case BUYER:
                    readBuyer();
                    break;
                case CLUB:
                    readClub();
                    break;
                case NEAR:
                    told.near = numberTold(0, 9);
                    break;
                case DUSK:
                    told.dusk = numberTold(1, 24);
                    told.duskPrice = numberTold(1, 99);
                    break;
                default:
                    told.hear = numberTold(0, 7);
                    break;
            }
        }

        private boolean isTooMany(int kind) {
            if (kind != STALLS && (kindsTold & 1 << STALLS) == 0) {
                return true;
            }
            switch (kind) {
                case STALLS:
                case NEAR:
                case DUSK:
                case HEAR:
                    return (kindsTold >> kind & 1) == 1;
                case HALF:
                    return told.halves >= MOST_HALVES;
                case BUYER:
                    return told.buyers >= MOST_BUYERS;
                default:
                    return false;
            }
        }

        private int numberTold(int least, int most) {
            return tape.isSound() ? tape.takeNumber(least, most) : least;
        }

        private void readHalf() {
            int h = told.halves;
            told.stall[h] = numberTold(0, told.stalls - 1);
            told.shape[h] = numberTold(0, LAST_SHAPE);
            told.side[h] = numberTold(0, 1);
            told.price[h] = numberTold(1, 99);
            told.halves++;
        }

        private void readForged() {
            int half = numberTold(0, told.halves - 1);
            if (tape.isSound()) {
                told.forged |= 1 << half;
            }
        }

        private void readBuyer() {
            int b = told.buyers;
            told.purse[b] = numberTold(0, 999);
            told.spot[b] = numberTold(0, told.stalls - 1);
            told.club[b] = 1 << b;
            told.buyers++;
        }

        private void readClub() {
            int one = numberTold(0, told.buyers - 1);
            if (tape.isSound()) {
                tape.skipBlanks();
            }
            int start = tape.place;
            int other = numberTold(0, told.buyers - 1);
            if (one == other) {
                tape.fail(start, 1);
            }
            if (tape.isSound()) {
                told.joinClubs(one, other);
            }
        }
    }

    /** A RULE as steps over a stack: from 0 on a NUMBER itself, from -1 to -13 a WORD, below it what joins. */
    private static final class Rule {
        static final int MOST_CLAUSES = 12;
        static final int MOST_PARTS = 60;
        static final int MOST_WORDS = 13;
        static final int BUY = 0;
        static final int GO = 1;
        static final int ADD = -20;
        static final int SUBTRACT = -21;
        static final int MULTIPLY = -22;
        static final int DIVIDE = -23;
        static final int REST = -24;
        static final int LESS = -25;
        static final int AT_MOST = -26;
        static final int EQUAL = -27;
        static final int AT_LEAST = -28;
        static final int MORE = -29;
        static final int AND = -30;
        static final int OR = -31;
        static final int NOT = -32;

        int clauses;
        final int[] kind = new int[MOST_CLAUSES];
        // of each CLAUSE the steps of its SUM, then those of its TEST
        final int[] start = new int[MOST_CLAUSES];
        final int[] middle = new int[MOST_CLAUSES];
        final int[] end = new int[MOST_CLAUSES];
        int[] code = new int[0];
    }

    private static final class RuleReader {
        private static final String KINDS = "buy go ";
        private static final String WORDS =
            "buyer purse spot hour left has half shape side price fits nearly known ";
        private static final int DEEPEST = 10;

        private Tape tape;
        private final int[] code = new int[MOST_BYTES];
        private int length;
        private int parts;

        Rule readRule(Tape text) {
            tape = text;
            Rule read = new Rule();
            length = 0;
            parts = 0;
            tape.rewind();
            boolean more = true;
            for (int clause = 0; clause <= Rule.MOST_CLAUSES && more && tape.isSound(); clause++) {
                readClause(read);
                more = tape.isSound() && tape.takeNextClause();
            }
            if (tape.isSound()) {
                read.code = Arrays.copyOf(code, length);
            }
            return read;
        }

        private void readClause(Rule read) {
            tape.skipBlanks();
            int start = tape.place;
            int kind = tape.takeWord(KINDS);
            if (kind < 0) {
                tape.fail(start, 0);
                return;
            }
            int clause = read.clauses;
            if (clause >= Rule.MOST_CLAUSES) {
                tape.fail(start, 4);
                return;
            }
            read.kind[clause] = kind;
            read.start[clause] = length;
            readSum();
            read.middle[clause] = length;
            if (tape.isSound() && tape.takeWord("if ") == 0) {
                readTest(0);
            }
            read.end[clause] = length;
            read.clauses++;
        }

        private void emit(int step) {
            if (length < code.length) {
                code[length] = step;
                length++;
            }
        }

        private void countPart(int where) {
            parts++;
            if (parts > Rule.MOST_PARTS) {
                tape.fail(where, 3);
            }
        }

        /** An or waits till the PART behind it has ended, as + and - do in a SUM. */
        private void readTest(int depth) {
            readFact(depth);
            boolean waiting = false;
            int word = takeJoint();
            for (int i = 0; i < MOST_BYTES && word != NONE; i++) {
                if (word == 0) {
                    readFact(depth);
                    emit(Rule.AND);
                } else {
                    if (waiting) {
                        emit(Rule.OR);
                    }
                    waiting = true;
                    readFact(depth);
                }
                word = takeJoint();
            }
            if (waiting) {
                emit(Rule.OR);
            }
        }

        private int takeJoint() {
            return tape.isSound() ? tape.takeWord("and or ") : NONE;
        }

        private void readFact(int depth) {
            tape.skipBlanks();
            int start = tape.place;
            boolean opens = tape.take('[');
            boolean not = !opens && tape.takeWord("not ") == 0;
            if (!opens && !not) {
                readSum();
                int sign = takeComparison();
                if (sign != NONE) {
                    readSum();
                    emit(sign);
                }
            } else if (depth >= DEEPEST) {
                tape.fail(start, 2);
            } else if (not) {
                readFact(depth + 1);
                emit(Rule.NOT);
            } else {
                readTest(depth + 1);
                closeBracket();
            }
        }

        private void closeBracket() {
            tape.skipBlanks();
            if (!tape.take(']')) {
                tape.fail(tape.place, 0);
            }
        }

        /** The SIGN of a FACT, which is counted; NONE behind a fault. */
        private int takeComparison() {
            if (!tape.isSound()) {
                return NONE;
            }
            tape.skipBlanks();
            int start = tape.place;
            int sign = takeSign();
            if (sign == NONE) {
                tape.fail(start, 0);
            } else {
                countPart(start);
            }
            return tape.isSound() ? sign : NONE;
        }

        private int takeSign() {
            if (tape.take('<')) {
                return tape.take('=') ? Rule.AT_MOST : Rule.LESS;
            }
            if (tape.take('>')) {
                return tape.take('=') ? Rule.AT_LEAST : Rule.MORE;
            }
            return tape.take('=') ? Rule.EQUAL : NONE;
        }

        /** A + or - waits till the TERM behind it has ended. */
        private void readSum() {
            readValue();
            int waiting = NONE;
            int sign = takeOperation();
            for (int i = 0; i < MOST_BYTES && sign != NONE; i++) {
                if (sign == Rule.ADD || sign == Rule.SUBTRACT) {
                    if (waiting != NONE) {
                        emit(waiting);
                    }
                    waiting = sign;
                    readValue();
                } else {
                    readValue();
                    emit(sign);
                }
                sign = takeOperation();
            }
            if (waiting != NONE) {
                emit(waiting);
            }
        }

        private int takeOperation() {
            if (!tape.isSound()) {
                return NONE;
            }
            tape.skipBlanks();
            if (tape.take('+')) {
                return Rule.ADD;
            }
            if (tape.take('-')) {
                return Rule.SUBTRACT;
            }
            if (tape.take('*')) {
                return Rule.MULTIPLY;
            }
            if (tape.take('/')) {
                return Rule.DIVIDE;
            }
            return tape.take('%') ? Rule.REST : NONE;
        }

        private void readValue() {
            if (!tape.isSound()) {
                return;
            }
            tape.skipBlanks();
            int start = tape.place;
            int word = tape.takeWord(WORDS);
            // what is no WORD must be a NUMBER, and is told a fault by it where it stands
            emit(word >= 0 ? -1 - word : tape.takeNumber(0, Integer.MAX_VALUE));
            countPart(start);
        }
    }

    /** All BUYERS BY A RULE, an HOUR at a time, on a scene that may be a copy. */
    private static final class Market {
        private static final int NO_WAY = -2;

        private final long[] stack = new long[Rule.MOST_PARTS];
        private Told told;
        private Scene scene;
        private Rule rule;
        // as RuleReader's WORDS stand in their row
        private final int[] words = new int[Rule.MOST_WORDS];
        private int buyer;
        private int saw;
        private int stalls;
        int bought;
        int x;

        void openFor(Told newlyTold, Scene newScene, Rule newRule) {
            told = newlyTold;
            scene = newScene;
            rule = newRule;
            bought = 0;
        }

        /** An HOUR goes by; percent says how likely a DRAW leads each BUYER, NONE: there are no DRAWS. */
        void passByRule(int percent) {
            for (int b = 0; b < told.buyers; b++) {
                int drawn = percent == NONE ? NO_WAY : drawnWay(percent);
                buyer = b;
                saw = scene.sawBy(told.club[b]);
                buyAll();
                int way = drawn == NO_WAY ? wayByRule() : drawn;
                scene.spot[b] = told.beside(scene.spot[b], way);
            }
            scene.passHour(told);
        }

        private int drawnWay(int percent) {
            return nextDraw() % 100 < percent ? nextDraw() % 3 - 1 : NO_WAY;
        }

        private int nextDraw() {
            x = (int) (x * 1103515245L + 12345L & 2147483647L);
            return x / 65536;
        }

        private void buyAll() {
            int stall = told.stallAt(scene.spot[buyer], scene.hour);
            for (int i = 0; i < MOST_HALVES; i++) {
                int wanted = wantedAt(stall);
                if (wanted == NONE) {
                    return;
                }
                scene.sell(wanted, stall, buyer, told.priceAt(wanted, scene.hour));
                bought++;
            }
        }

        private int wantedAt(int stall) {
            int wanted = NONE;
            long greatest = 0;
            stalls = scene.atStalls();
            for (int h = 0; h < told.halves; h++) {
                if ((scene.at[stall] >> h & 1) == 0 || told.priceAt(h, scene.hour) > scene.purse[buyer]) {
                    continue;
                }
                tellWords(h);
                long sum = sumByRule(Rule.BUY);
                if (sum > greatest) {
                    greatest = sum;
                    wanted = h;
                }
            }
            return wanted;
        }

        private int wayByRule() {
            tellWords(NONE);
            long sum = sumByRule(Rule.GO);
            return sum == 1 || sum == -1 ? (int) sum : 0;
        }

        /** Of the first CLAUSE that holds; 0, by which nothing is done, if none does. */
        private long sumByRule(int kind) {
            for (int i = 0; i < rule.clauses; i++) {
                if (rule.kind[i] != kind) {
                    continue;
                }
                if (rule.middle[i] == rule.end[i] || valueOf(rule.middle[i], rule.end[i]) != 0) {
                    return valueOf(rule.start[i], rule.middle[i]);
                }
            }
            return 0;
        }

        private long valueOf(int from, int to) {
            int top = 0;
            for (int i = from; i < to && i < rule.code.length; i++) {
                int step = rule.code[i];
                if (step >= -Rule.MOST_WORDS) {
                    if (top < stack.length) {
                        stack[top] = step >= 0 ? step : words[-1 - step];
                        top++;
                    }
                } else if (step == Rule.NOT) {
                    if (top >= 1) {
                        stack[top - 1] = 1 - stack[top - 1];
                    }
                } else if (top >= 2) {
                    top--;
                    stack[top - 1] = step <= Rule.LESS
                        ? (holds(step, stack[top - 1], stack[top]) ? 1 : 0)
                        : joined(step, stack[top - 1], stack[top]);
                }
            }
            return top > 0 ? stack[top - 1] : 0;
        }

        private static long joined(int step, long one, long other) {
            switch (step) {
                case Rule.ADD:
                    return one + other;
                case Rule.SUBTRACT:
                    return one - other;
                case Rule.MULTIPLY:
                    return one * other;
                case Rule.DIVIDE:
                    return other == 0 ? 0 : one / other;
                default:
                    return other == 0 ? 0 : one % other;
            }
        }

        private static boolean holds(int step, long one, long other) {
            switch (step) {
                case Rule.LESS:
                    return one < other;
                case Rule.AT_MOST:
                    return one <= other;
                case Rule.EQUAL:
                    return one == other;
                case Rule.AT_LEAST:
                    return one >= other;
                case Rule.MORE:
                    return one > other;
                case Rule.AND:
                    return one != 0 && other != 0;
                default:
                    return one != 0 || other != 0;
            }
        }

        /** Told ahead of each SUM: by what is bought they change. */
        private void tellWords(int half) {
            int has = scene.has[buyer];
            boolean isHalf = told.isHalf(half);
            int fitting = isHalf ? told.fitting[half] : 0;
            words[0] = buyer;
            words[1] = scene.purse[buyer];
            words[2] = scene.spot[buyer];
            words[3] = scene.hour;
            words[4] = told.left(scene.hour);
            words[5] = Integer.bitCount(has);
            words[6] = isHalf ? half : 0;
            words[7] = isHalf ? told.shape[half] : 0;
            words[8] = isHalf ? told.side[half] : 0;
            words[9] = isHalf ? told.priceAt(half, scene.hour) : 0;
            words[10] = Integer.bitCount(has & fitting);
            words[11] = isHalf ? Integer.bitCount(has & told.nearly[half]) : 0;
            words[12] = Integer.bitCount(saw & stalls & fitting);
        }
    }
}
