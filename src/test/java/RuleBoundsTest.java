import java.math.BigInteger;

/** BY A RULE, and what goes on by RULES (promises 16, 23, 27): each sentence with a bound, on both sides of it. */
public final class RuleBoundsTest {
    private static final Check CHECK = new Check();
    private static final String TWO_TO_60 = "32768*32768*32768*32768";

    public static void main(String[] args) {
        hoursOfARun();
        runWithoutThese();
        whatTheyCanPay();
        aboveZero();
        greatestSum();
        asLongAs();
        firstClause();
        theWay();
        byNumbers();
        wordsOfABuyer();
        wordsOfAHalf();
        knownWord();
        wordsInGo();
        left();
        dividing();
        goesRound();
        signs();
        joints();
        bringWithoutThese();
        bringElsewhere();
        bringTillDusk();
        bringFirstStall();
        draws();
        drawsBounds();
        fairsWithoutThese();
        fairsTillDusk();
        fairsChangeNothing();
        seenBehindTheHour();
        CHECK.finish();
    }

    private static void due(String call, long got, long want) {
        CHECK.due(call, got, want);
    }

    private static void hoursOfARun() {
        CHECK.says("BY A RULE n HOURS (1 to 48): HOUR; NONE, and nothing happens, .. if it would be above 99");
        HalfFair f = Check.open("stalls 3 1;buyer 0 0");
        Check.rule(f, "go 1");
        String before = Check.state(f);
        for (int n : new int[] {0, 49, -1, Integer.MIN_VALUE, Integer.MAX_VALUE}) {
            due("n " + n, f.run(0, n), -1);
        }
        CHECK.stays("refused", f, before);
        due("n 1", f.run(0, 1), 1);
        due("n 48", f.run(0, 48), 49);
        due("n 48", f.run(0, 48), 97);
        due("SPOT", f.buyer(0, 1), 97 % 3);
        before = Check.state(f);
        due("to 100", f.run(0, 3), -1);
        due("far above", f.run(0, 48), -1);
        CHECK.stays("refused", f, before);
        due("to 99", f.run(0, 2), 99);
        before = Check.state(f);
        due("at 99", f.run(0, 1), -1);
        CHECK.stays("refused", f, before);
        HalfFair nobody = Check.open("stalls 3 1");
        Check.rule(nobody, "go 1");
        due("without BUYERS HOURS go by, too", nobody.run(0, 5), 5);
        due("STALLS move", nobody.spot(0, 0), 2);
    }

    private static void runWithoutThese() {
        CHECK.says("run: NONE, and nothing happens, without these (no FAIR)");
        HalfFair f = new HalfFair();
        Check.rule(f, "go 1");
        due("no FAIR", f.run(0, 1), -1);
        due("HOUR", f.count(4), 0);
        Check.fair(f, "stalls 2 0;buyer 0 0");
        f.go(0, 0);
        String before = Check.state(f);
        due("no RULE 1", f.run(1, 1), -1);
        due("no RULE -1", f.run(-1, 1), -1);
        due("no RULE 6", f.run(6, 1), -1);
        CHECK.stays("refused", f, before);
        due("the last RULE", f.run(0, 1), 2);
    }

    private static void whatTheyCanPay() {
        CHECK.says("a HALF at the STALL where they are that they can pay");
        String text = "stalls 2 0;half 0 1 0 9;half 1 1 0 1;dusk 1 5;buyer ";
        due("8 for 9", bought(text + "8 0", "buy 1", 1), 0);
        due("9 for 9", bought(text + "9 0", "buy 1", 1), 1);
        due("4 for dusk's 5", bought(text + "4 0", "buy 1", 2), 0);
        due("5 for dusk's 5", bought(text + "5 0", "buy 1", 2), 1);
        due("0 for 1", bought(text + "0 1", "buy 1", 1), 0);
        due("1 for 1", bought(text + "1 1", "buy 1", 1), 2);
    }

    private static int bought(String text, String rule, int hours) {
        HalfFair f = Check.open(text);
        due("rule of " + rule, Check.rule(f, rule), 0);
        f.run(0, hours);
        return f.buyer(0, 2);
    }

    private static void aboveZero() {
        CHECK.says("whose SUM .. is above 0");
        String text = "stalls 2 0;half 0 1 0 9;buyer 99 0";
        due("1", bought(text, "buy 1", 1), 1);
        due("0", bought(text, "buy 0", 3), 0);
        due("-1", bought(text, "buy 0-1", 3), 0);
        due("without a buy CLAUSE", bought(text, "go 0", 3), 0);
        due("2 to the 32nd", bought(text, "buy 65536*65536", 1), 1);
        due("2 to the 31st", bought(text, "buy 32768*65536", 1), 1);
        due("2 to the 63rd less 1", bought(text, "buy " + TWO_TO_60 + "*8-1", 1), 1);
        due("2 to the 63rd goes round to below 0", bought(text, "buy " + TWO_TO_60 + "*8", 1), 0);
    }

    private static void greatestSum() {
        CHECK.says("that with the greatest SUM, of several the least, they BUY");
        String text = "stalls 2 0;half 0 1 0 5;half 0 2 0 5;half 0 3 0 5;buyer 5 0";
        due("the greatest", bought(text, "buy shape", 1), 4);
        due("the greatest", bought(text, "buy 4-shape", 1), 1);
        due("of several the least", bought(text, "buy 7", 1), 1);
        due("of the two greatest the least", bought(text, "buy 9 if half > 0;buy 1", 1), 2);
        due("beyond 32 bits", bought(text, "buy 65536*65536*3-65536*65536*half", 1), 1);
        due("beyond 32 bits", bought(text, "buy 65536*65536*half+1", 1), 4);
    }

    private static void asLongAs() {
        CHECK.says("as long as there is a HALF");
        String all = "stalls 2 0" + ";half 1 5 0 2".repeat(12) + ";buyer ";
        due("all twelve", bought(all + "24 1", "buy 1", 1), 4095);
        due("as far as the PURSE goes", bought(all + "23 1", "buy 1", 1), 2047);
        due("till has is 3", bought(all + "99 1", "buy 3-has", 1), 7);
        String text = "stalls 2 0;half 0 1 0 6;half 0 2 0 5;half 0 3 0 4;buyer 9 0";
        // the dearest first, then what can be paid still: none
        due("PURSE then", bought(text, "buy price", 1), 1);
        due("PURSE then", bought(text, "buy 10-price", 1), 2 | 4);
        CHECK.says("fits (of theirs that fit it): as it is by then");
        due("the pair of the first", bought("stalls 2 0;half 0 1 0 1;half 0 2 1 1;half 0 1 1 1;buyer 9 0",
            "buy fits;buy 1", 1), 0);
        due("the pair of the first", bought("stalls 2 0;half 0 1 0 1;half 0 2 1 1;half 0 1 1 1;buyer 9 0",
            "buy 1 if has=0;buy fits", 1), 1 | 4);
    }

    private static void firstClause() {
        CHECK.says("SUM of the first buy CLAUSE without a TEST, or whose TEST holds");
        String text = "stalls 4 0;half 0 1 0 5;half 0 2 0 5;buyer 5 0";
        due("the first without a TEST", bought(text, "buy half;buy 2-half", 1), 2);
        due("the first whose TEST holds", bought(text, "buy half if 1=2;buy 2-half if 1=1;buy half", 1), 1);
        due("a first of 0 is it, too", bought(text, "buy 0;buy 1", 1), 0);
        due("no TEST holds", bought(text, "buy 1 if 1=2;buy 1 if 2=1", 1), 0);
        due("a TEST by HALVES", bought(text, "buy 1 if shape=2", 1), 2);
        due("go CLAUSES do not count", bought(text, "go 1;buy 0-1 if 1=2;go 0;buy half", 1), 2);
        CHECK.says("they GO by the SUM of the first go CLAUSE so");
        due("the first", spotBy("go 1;go 0"), 1);
        due("whose TEST holds", spotBy("go 1 if 1=2;go 0-1 if 1=1;go 1"), 3);
        due("no TEST holds", spotBy("go 1 if 1=2"), 0);
        due("none: STAY", spotBy("buy 1"), 0);
        due("a first of 0 is it, too", spotBy("go 0;go 1"), 0);
    }

    private static int spotBy(String rule) {
        HalfFair f = Check.open("stalls 4 0;half 0 1 0 5;half 0 1 1 5;buyer 7 0");
        due("rule of " + rule, Check.rule(f, rule), 0);
        f.run(0, 1);
        return f.buyer(0, 1);
    }

    private static void theWay() {
        CHECK.says("if it is 1 or -1, else STAY");
        due("1", spotBy("go 1"), 1);
        due("-1", spotBy("go 0-1"), 3);
        due("0", spotBy("go 0"), 0);
        due("2", spotBy("go 2"), 0);
        due("-2", spotBy("go 0-2"), 0);
        due("2 to the 32nd and 1", spotBy("go 65536*65536+1"), 0);
        due("2 to the 32nd less 1", spotBy("go 65536*65536-1"), 0);
        due("2 to the 64th and 1", spotBy("go " + TWO_TO_60 + "*16+1"), 1);
        due("2 to the 63rd", spotBy("go " + TWO_TO_60 + "*8"), 0);
    }

    private static void byNumbers() {
        CHECK.says("in each, BUYERS by numbers; then an HOUR goes by for all");
        HalfFair f = Check.open("stalls 3 1;half 0 1 0 1;half 2 1 1 1;buyer 9 0;buyer 9 0;buyer 9 2");
        Check.rule(f, "buy 1;go 1 if buyer=0");
        due("HOUR", f.run(0, 1), 1);
        due("the first buys", f.buyer(0, 2), 1);
        due("the second finds none", f.buyer(1, 2), 0);
        due("the third is elsewhere", f.buyer(2, 2), 2);
        due("the first goes", f.buyer(0, 1), 1);
        due("the second stays", f.buyer(1, 1), 0);
        HalfFair seen = Check.open("stalls 3 1;half 0 1 0 9;buyer 0 0;buyer 0 1;buyer 0 2");
        Check.rule(seen, "go 0");
        seen.run(0, 2);
        due("SEEN behind each HOUR", seen.buyer(2, 3), 1);
        due("SEEN behind each HOUR", seen.buyer(1, 3), 1);
    }

    /** The TEST is held for the only HALF there is, by whether it is bought. */
    private static void holds(String test, boolean want) {
        due("buy 1 if " + test, bought("stalls 2 0;half 0 42 1 9;buyer 99 0", "buy 1 if " + test, 1), want ? 1 : 0);
    }

    private static void wordsOfABuyer() {
        CHECK.says("WORDS of a BUYER: buyer, purse, spot, hour, left, has");
        HalfFair f = Check.open("stalls 4 0;half 3 1 0 5;half 3 1 1 5;buyer 1 0;buyer 2 0;buyer 50 3;dusk 9 1");
        Check.rule(f, "go 1 if buyer=2 and purse=40 and spot=3 and hour=2 and left=7 and has=2");
        Check.rule(f, "go 1 if buyer=0 and purse=1 and spot=0 and hour=3 and left=6 and has=0");
        f.buy(2, 0);
        f.buy(2, 1);
        f.go(0, 0);
        f.go(0, 0);
        f.run(0, 1);
        due("BUYER 2 goes round", f.buyer(2, 1), 0);
        due("BUYER 0 stays", f.buyer(0, 1), 0);
        f.run(1, 1);
        due("BUYER 0 goes", f.buyer(0, 1), 1);
        due("BUYER 1 stays", f.buyer(1, 1), 0);
    }

    private static void wordsOfAHalf() {
        CHECK.says("for buy, of a HALF: half, shape, side, price (now), fits, nearly");
        holds("half=0 and shape=42 and side=1 and price=9 and fits=0 and nearly=0 and known=0", true);
        due("of HALF 1", bought("stalls 2 0;half 1 9 0 9;half 0 42 1 8;buyer 99 0",
            "buy 1 if half=1 and shape=42 and side=1 and price=8", 1), 2);
        due("price from dusk on", bought("stalls 2 0;half 0 42 1 9;buyer 99 0;dusk 1 3", "buy 1 if price=3", 2), 1);
        due("price ahead of dusk", bought("stalls 2 0;half 0 42 1 9;buyer 99 0;dusk 3 3", "buy 1 if price=3", 2), 0);
        String text = "stalls 2 0;half 0 10 0 1;half 0 10 0 1;half 0 12 0 1;half 0 13 0 1;half 0 70 0 1;half 1 10 1 1;"
            + "forged 4;buyer 99 0;near 2";
        HalfFair f = Check.open(text);
        Check.rule(f, "buy 1 if half<5;buy 1 if half=5 and fits=3 and nearly=1;go 1");
        f.run(0, 2);
        due("two and the FORGED one fit, one nearly", f.buyer(0, 2), 63);
    }

    private static void knownWord() {
        CHECK.says("known (of those they SAW, at a STALL still, that fit it)");
        String text = "stalls 3 0;half 0 5 0 1;half 1 5 1 1;half 2 5 1 1;half 0 6 1 1;buyer 9 0;buyer 9 1;buyer 9 2";
        due("none SAW yet", knownIs(text, 0), 1);
        due("SAW by one of the club", knownIs(text + ";club 0 1", 1), 1);
        due("SAW by two of the club", knownIs(text + ";club 0 1;club 2 0", 2), 1);
        HalfFair second = Check.open(text);
        Check.rule(second, "buy 1 if half=1 and buyer=1 and known=0");
        second.run(0, 1);
        due("what BUYER 0 SAW is not known to BUYER 1", second.buyer(1, 2), 2);
        HalfFair f = Check.open(text + ";club 0 1;club 2 0");
        Check.rule(f, "buy 1 if half=0 and buyer=0 and known=1");
        f.buy(1, 1);
        f.run(0, 1);
        due("one is at no STALL any more", f.buyer(0, 2), 1);
        HalfFair forged = Check.open("stalls 2 0;half 0 5 0 1;half 0 6 0 1;half 0 7 0 1;forged 0;buyer 9 0");
        Check.rule(forged, "buy 1 if known=2");
        Check.rule(forged, "buy 1 if known=1");
        forged.run(0, 1);
        due("a FORGED one fits each other one, not itself", forged.buyer(0, 2), 1);
    }

    private static int knownIs(String text, int known) {
        HalfFair f = Check.open(text);
        Check.rule(f, "buy 1 if half=0 and buyer=0 and known=" + known);
        f.run(0, 1);
        return f.buyer(0, 2);
    }

    private static void wordsInGo() {
        CHECK.says("in go these seven are 0");
        for (String word : new String[] {"half", "shape", "side", "price", "fits", "nearly", "known"}) {
            HalfFair f = Check.open("stalls 4 0;half 0 7 1 3;half 0 7 0 3;half 0 8 0 3;half 0 8 1 4;buyer 12 0;near 1");
            Check.rule(f, "buy half;go 1 if " + word + " = 0");
            f.run(0, 1);
            due("bought", f.buyer(0, 2), 14);
            due(word, f.buyer(0, 1), 1);
        }
    }

    private static void left() {
        CHECK.says("left (HOURS till dusk, 0 from then on)");
        HalfFair f = Check.open("stalls 8 0;buyer 0 0;dusk 2 1");
        Check.rule(f, "go 1 if hour=0 and left=2 or hour=1 and left=1 or hour>=2 and left=0");
        for (int hour = 1; hour <= 5; hour++) {
            f.run(0, 1);
            due("at HOUR " + hour, f.buyer(0, 1), hour);
        }
    }

    private static void dividing() {
        CHECK.says("/ is towards 0, % its rest, both 0 by 0");
        holds("7/2=3 and 7%2=1 and 0-7/2=0-3 and 0-7%2=0-1", true);
        holds("93-100*1/2=43 and 100/7/2=7 and 17%5*2=4 and 9-3-2=4 and 2*3+4*5=26", true);
        // a TERM is below 0 only if it goes round: this one is minus 2 to the 60th
        String minus = TWO_TO_60 + "*15";
        holds(minus + "<0", true);
        holds(minus + "/32768/32768/32768/32768=0-1", true);
        holds(minus + "/32768/32768/32768/32767=0-1", true);
        holds(minus + "/32768/32768/32768/32769=0", true);
        holds(minus + "%7=0-1", true);
        holds("5/0=0 and 5%0=0", true);
        holds("0/0=0 and 0%0=0", true);
        holds("5/half=0 and 5%half=0 and 1+5/0*3=1", true);
        holds("0/5=0 and 0%5=0 and 4%5=4 and 5%5=0 and 4/5=0 and 5/5=1", true);
    }

    private static void goesRound() {
        CHECK.says("all goes round in 64 bits");
        holds(TWO_TO_60 + "*8<0", true);
        holds(TWO_TO_60 + "*8-1>0", true);
        holds(TWO_TO_60 + "*7+" + TWO_TO_60 + "<0", true);
        holds(TWO_TO_60 + "*16=0", true);
        holds(TWO_TO_60 + "*8+" + TWO_TO_60 + "*8=0", true);
        holds("65536*65536>65535 and 65536*32768>0", true);
        holds("99999*99999*99999*99999>0 and 99999*99999>99999", true);
    }

    private static void signs() {
        CHECK.says("SIGN one of < <= = >= >");
        String[] signs = {"<", "<=", "=", ">=", ">"};
        boolean[][] due = {{true, true, false, false, false}, {false, true, true, true, false},
            {false, false, false, true, true}};
        for (int s = 0; s < 5; s++) {
            holds("1" + signs[s] + "2", due[0][s]);
            holds("2" + signs[s] + "2", due[1][s]);
            holds("3" + signs[s] + "2", due[2][s]);
            holds("0-1" + signs[s] + "0", due[0][s]);
        }
    }

    private static void joints() {
        CHECK.says("TEST: PART { or PART }. PART: FACT { and FACT }. FACT: not FACT | [ TEST ] | SUM SIGN SUM");
        String[] fact = {"1=2", "1=1"};
        for (int a = 0; a < 2; a++) {
            for (int b = 0; b < 2; b++) {
                for (int c = 0; c < 2; c++) {
                    String p = fact[a];
                    String q = fact[b];
                    String r = fact[c];
                    boolean one = a == 1;
                    boolean two = b == 1;
                    boolean three = c == 1;
                    holds(p + " or " + q + " and " + r, one || two && three);
                    holds(p + " and " + q + " or " + r, one && two || three);
                    holds("[" + p + " or " + q + "] and " + r, (one || two) && three);
                    holds("not " + p + " and " + q + " or " + r, !one && two || three);
                    holds("not [" + p + " and " + q + "] and " + r, !(one && two) && three);
                    holds("not not " + p + " and not " + q, one && !two);
                    holds(p + " and [" + q + " or " + r + "]", one && (two || three));
                    holds(p + " and [" + q + "] or [" + r + "]", one && two || three);
                    holds(p + " or not [" + q + " or " + r + "]", one || !(two || three));
                    holds(p + " or " + q + " or " + r, one || two || three);
                    holds(p + " and " + q + " and " + r, one && two && three);
                }
            }
        }
    }

    private static void bringWithoutThese() {
        CHECK.says("bring: NONE without these");
        HalfFair f = Check.open("stalls 3 0;half 0 1 0 5;half 2 1 0 5;buyer 9 1");
        due("no RULE at all", f.bring(0, 0, 0), -1);
        Check.rule(f, "buy 1");
        for (int what = 0; what <= 1; what++) {
            due("the last HALF", f.bring(0, 1, what), what == 0 ? 1 : 0);
            due("no HALF 2", f.bring(0, 2, what), -1);
            due("no HALF -1", f.bring(0, -1, what), -1);
            due("no RULE 1", f.bring(1, 0, what), -1);
            due("no RULE -1", f.bring(-1, 0, what), -1);
        }
        due("no what 2", f.bring(0, 0, 2), -1);
        due("no what -1", f.bring(0, 0, -1), -1);
    }

    private static void bringElsewhere() {
        CHECK.says("if it were at a STALL now (another one than that where it is; it may be a BUYER's)");
        HalfFair f = Check.open("stalls 4 0;half 2 1 0 5;buyer 9 2;dusk 4 1");
        Check.rule(f, "buy 1;go 1");
        // at STALL 2 it would be sold at once; elsewhere at STALL 3 an HOUR later
        due("another STALL", f.bring(0, 0, 0), 3);
        due("the HOUR", f.bring(0, 0, 1), 1);
        f.buy(0, 0);
        due("a BUYER's can't be paid by the 4 left", f.bring(0, 0, 0), -2);
        HalfFair rich = Check.open("stalls 4 0;half 2 1 0 5;buyer 10 2;dusk 4 1");
        Check.rule(rich, "buy 1;go 1");
        rich.buy(0, 0);
        String before = Check.state(rich);
        due("a BUYER's: any STALL", rich.bring(0, 0, 0), 2);
        due("the HOUR", rich.bring(0, 0, 1), 0);
        CHECK.stays("what is asked", rich, before);
        HalfFair has = Check.open("stalls 2 0;half 0 1 0 1;buyer 9 0");
        Check.rule(has, "buy 1 if has=0");
        has.buy(0, 0);
        due("they don't have it then", has.bring(0, 0, 0), 0);
        HalfFair second = Check.open("stalls 2 0;half 0 1 0 1;buyer 0 1;buyer 9 0");
        Check.rule(second, "buy 1 if has=0");
        second.buy(1, 0);
        due("nor does the second one", second.bring(0, 0, 0), 0);
    }

    private static void bringTillDusk() {
        CHECK.says("till dusk (..; from dusk on not at all): whether it is sold by then");
        for (int hours = 1; hours <= 4; hours++) {
            HalfFair f = Check.open("stalls 8 0;half 4 1 0 5;buyer 9 0;dusk " + hours + " 1");
            Check.rule(f, "buy 1 if spot=2;go 1");
            // SPOT 2 is reached at HOUR 2
            due("dusk " + hours, f.bring(0, 0, 0), hours > 2 ? 2 : -2);
            due("dusk " + hours, f.bring(0, 0, 1), hours > 2 ? 2 : -2);
        }
        HalfFair f = Check.open("stalls 2 0;half 1 1 0 5;buyer 9 0;dusk 2 1");
        Check.rule(f, "buy 1");
        Check.rule(f, "buy 0");
        f.go(0, 0);
        due("the last HOUR ahead of dusk", f.bring(0, 0, 0), 0);
        due("HOUR", f.bring(0, 0, 1), 1);
        due("never wanted", f.bring(1, 0, 0), -2);
        due("never wanted", f.bring(1, 0, 1), -2);
        f.go(0, 0);
        due("at dusk", f.bring(0, 0, 0), -2);
        due("at dusk", f.bring(0, 0, 1), -2);
        f.go(0, 0);
        due("from dusk on", f.bring(0, 0, 1), -2);
        CHECK.says("or 24 HOURS, if that is less");
        HalfFair late = Check.open("stalls 2 0;half 1 1 0 5;buyer 9 0;dusk 24 1");
        Check.rule(late, "buy 1 if hour=23");
        Check.rule(late, "buy 1 if hour=24");
        due("HOUR 23", late.bring(0, 0, 1), 23);
        due("HOUR 24", late.bring(1, 0, 1), -2);
    }

    private static void bringFirstStall() {
        CHECK.says("the first STALL by which it is sold soonest (least HOUR), the HOUR");
        HalfFair f = Check.open("stalls 5 0;half 0 1 0 5;buyer 9 3;buyer 9 2;buyer 9 0");
        Check.rule(f, "buy 1 if half=0");
        due("STALLS 2 and 3 at once: the first", f.bring(0, 0, 0), 2);
        due("HOUR", f.bring(0, 0, 1), 0);
        HalfFair soon = Check.open("stalls 5 0;half 0 1 0 5;buyer 9 3;dusk 9 1");
        Check.rule(soon, "buy 1 if half=0;go 0-1");
        due("STALL 3 is sooner than 1 and 2", soon.bring(0, 0, 0), 3);
        HalfFair price = Check.open("stalls 3 1;half 0 1 0 9;buyer 5 0;dusk 3 5");
        Check.rule(price, "buy 1");
        due("for its price, not that of dusk", price.bring(0, 0, 0), -2);
    }

    private static void draws() {
        CHECK.says("x becomes x * 1103515245 + 12345, of 2147483648 the rest; a DRAW is x / 65536");
        int[] seeds = {0, 1, 77, 65535, 2147483647, 1073741824};
        for (int seed : seeds) {
            HalfFair f = Check.open("stalls 7 0;half 0 1 0 1;half 1 1 0 1;half 2 1 0 1;half 3 1 0 1;half 4 1 0 1;"
                + "half 5 1 0 1;half 6 1 0 1;buyer 99 3;dusk 5 1");
            Check.rule(f, "buy 1;go 0");
            f.seed(seed);
            for (int p : new int[] {0, 1, 50, 99, 100}) {
                due("seed " + seed + ", p " + p, f.fairs(0, 3, p, 0), drawnHalves(seed, p));
            }
            due("x as it was", f.count(9), seed);
        }
    }

    /** STALLS that one BUYER from SPOT 3 of 7 comes by in 5 HOURS, three times, if the RULE says to STAY. */
    private static int drawnHalves(int seed, int p) {
        BigInteger x = BigInteger.valueOf(seed);
        int all = 0;
        for (int time = 0; time < 3; time++) {
            int spot = 3;
            int come = 0;
            for (int hour = 0; hour < 5; hour++) {
                x = next(x);
                int way = 0;
                if (x.intValue() / 65536 % 100 < p) {
                    x = next(x);
                    way = x.intValue() / 65536 % 3 - 1;
                }
                come |= 1 << spot;
                spot = (spot + way + 7) % 7;
            }
            all += Integer.bitCount(come);
        }
        return all;
    }

    private static BigInteger next(BigInteger x) {
        return x.multiply(BigInteger.valueOf(1103515245)).add(BigInteger.valueOf(12345))
            .mod(BigInteger.valueOf(2147483648L));
    }

    private static void drawsBounds() {
        CHECK.says("if a DRAW mod 100 is below p (0 to 100)");
        // from 0 on the first DRAW is 0, the second 21468: mod 3, less 1, it is -1
        HalfFair f = Check.open("stalls 3 0;half 2 1 0 1;half 1 1 0 1;half 1 1 0 1;buyer 9 0;dusk 2 1");
        Check.rule(f, "buy 1;go 1");
        due("0 is not below 0", f.fairs(0, 1, 0, 0), 2);
        due("0 is below 1", f.fairs(0, 1, 1, 0), 1);
        // from 12345 on the first DRAW is 21468, its rest 68; the second is 9988, mod 3, less 1: 0
        f.seed(12345);
        due("68 is not below 68", f.fairs(0, 1, 68, 0), 2);
        due("68 is below 69", f.fairs(0, 1, 69, 0), 0);
    }

    private static void fairsWithoutThese() {
        CHECK.says("fairs: NONE without these, or a FAIR; m times (1 to 10); p (0 to 100)");
        HalfFair f = new HalfFair();
        Check.rule(f, "buy 1");
        due("no FAIR", f.fairs(0, 1, 0, 0), -1);
        due("no FAIR", f.fairs(0, 1, 0, 1), -1);
        Check.fair(f, "stalls 2 0;half 0 1 0 1;buyer 9 0");
        due("m 0", f.fairs(0, 0, 0, 0), -1);
        due("m 1", f.fairs(0, 1, 0, 0), 1);
        due("m 10", f.fairs(0, 10, 0, 0), 10);
        due("m 10", f.fairs(0, 10, 0, 1), 90);
        due("m 11", f.fairs(0, 11, 0, 0), -1);
        due("m -1", f.fairs(0, -1, 0, 0), -1);
        due("p -1", f.fairs(0, 1, -1, 0), -1);
        due("p 100", f.fairs(0, 1, 100, 0), 1);
        due("p 101", f.fairs(0, 1, 101, 0), -1);
        due("what -1", f.fairs(0, 1, 0, -1), -1);
        due("what 2", f.fairs(0, 1, 0, 2), -1);
        due("no RULE 1", f.fairs(1, 1, 0, 0), -1);
        due("no RULE -1", f.fairs(-1, 1, 0, 0), -1);
    }

    private static void fairsTillDusk() {
        CHECK.says("till dusk (24 HOURS at most; from dusk on none) from now on");
        HalfFair f = Check.open("stalls 2 0;half 0 1 0 9;half 0 1 1 9;half 0 5 0 9;buyer 30 0;dusk 3 1");
        Check.rule(f, "buy 1 if hour=2 and has<2");
        Check.rule(f, "buy 1 if hour=3");
        due("the last HOUR ahead of dusk", f.fairs(0, 1, 0, 0), 2);
        due("WORTH", f.fairs(0, 1, 0, 1), 40);
        due("not at dusk", f.fairs(1, 1, 0, 0), 0);
        f.go(0, 0);
        f.go(0, 0);
        due("one HOUR left", f.fairs(0, 2, 0, 0), 4);
        f.buy(0, 2);
        due("what was bought ahead of them does not count", f.fairs(0, 1, 0, 0), 1);
        due("but is worth what it is", f.fairs(0, 1, 0, 1), 18);
        f.go(0, 0);
        due("at dusk", f.fairs(1, 10, 0, 0), 0);
        due("at dusk", f.fairs(1, 10, 0, 1), 90);
        f.go(0, 0);
        due("from dusk on", f.fairs(1, 10, 100, 0), 0);
        HalfFair late = Check.open("stalls 2 0;half 0 1 0 9;buyer 30 0;dusk 24 1");
        Check.rule(late, "buy 1 if hour=23");
        Check.rule(late, "buy 1 if hour=24");
        due("HOUR 23", late.fairs(0, 1, 0, 0), 1);
        due("HOUR 24", late.fairs(1, 1, 0, 0), 0);
        CHECK.says("WORTH of what all BUYERS have at the end (each alone), together");
        HalfFair two = Check.open("stalls 2 0;half 0 1 0 9;half 1 1 1 9;buyer 9 0;buyer 9 1;dusk 1 1");
        Check.rule(two, "buy 1");
        due("9 and 9, not 40", two.fairs(0, 1, 0, 1), 18);
        HalfFair one = Check.open("stalls 2 0;half 1 1 0 9;half 1 1 1 9;buyer 9 0;buyer 18 1;buyer 1 0;dusk 1 1");
        Check.rule(one, "buy 1");
        due("the second one's 40", one.fairs(0, 1, 0, 1), 40);
        HalfFair nobody = Check.open("stalls 2 0;half 0 1 0 9");
        Check.rule(nobody, "buy 1");
        due("no BUYERS", nobody.fairs(0, 10, 50, 0), 0);
        due("no BUYERS", nobody.fairs(0, 10, 50, 1), 0);
    }

    private static void fairsChangeNothing() {
        CHECK.says("(nothing stays; x as it was)");
        HalfFair f = Check.open("stalls 4 1;half 0 1 0 2;half 1 1 1 2;half 2 2 0 2;buyer 9 0;buyer 9 3;dusk 6 1");
        Check.rule(f, "buy 1;go 1");
        f.seed(99);
        f.buy(0, 0);
        f.go(0, 1);
        f.trial(0, 1, true);
        String before = Check.state(f);
        int bought = f.fairs(0, 10, 50, 0);
        int worth = f.fairs(0, 10, 50, 1);
        CHECK.stays("fairs", f, before);
        due("asked again", f.fairs(0, 10, 50, 0), bought);
        due("asked again", f.fairs(0, 10, 50, 1), worth);
        due("the last ACT can be UNDONE still", f.undo(), 1);
    }

    private static void seenBehindTheHour() {
        CHECK.says("SEES .. behind each HOUR: BY A RULE what came to a STALL by now is known an HOUR later");
        String text = "stalls 2 0;half 1 5 0 1;half 0 5 1 9;buyer 9 0;buyer 9 1;dusk ";
        for (int dusk = 2; dusk <= 3; dusk++) {
            HalfFair f = Check.open(text + dusk + " 1");
            Check.rule(f, "buy known if half = 1");
            f.buy(1, 0);
            f.go(1, -1);
            f.giveUp(1, 0);
            due("FAIRS, dusk at " + dusk, f.fairs(0, 1, 0, 0), dusk - 2);
            f.run(0, 1);
            due("BOUGHT, dusk at " + dusk, f.buyer(0, 2), 0);
            f.run(0, 1);
            due("BOUGHT an HOUR later", f.buyer(0, 2), 2);
        }
        HalfFair f = Check.open("stalls 2 0;half 1 5 0 1;half 0 5 1 9;buyer 10 0;dusk 3 1");
        Check.rule(f, "buy 1 if half = 0 and purse < 9;buy known if half = 1");
        due("BRING", f.bring(0, 0, 0), 0);
        due("BRING, HOUR", f.bring(0, 0, 1), 1);
    }
}
