import java.math.BigInteger;

/** Terms, part III, and promises 17 to 22, 24 to 26, 28 to 30: each sentence with a bound, on both sides of it. */
public final class AskedBoundsTest {
    private static final Check CHECK = new Check();
    /** HALVES: 0 and 1 FIT, 2 NEARLY fits 0, 3 fits none, 4 is FORGED; BUYERS 0 and 1 at SPOT 0, 2 at SPOT 2. */
    private static final String FIVE = "stalls 4 0;half 0 10 0 4;half 0 10 1 6;half 0 12 1 3;half 2 30 0 2;"
        + "half 1 50 0 8;forged 4;buyer 20 0;buyer 9 0;buyer 2 2;near 2;dusk 3 1";

    public static void main(String[] args) {
        worthOfSets();
        worthOfPairs();
        worthWithoutThese();
        withWhom();
        withWithoutThese();
        walkWithoutThese();
        walkTwelveHours();
        walkNotAtDusk();
        walkPays();
        walkFirstOfSeveral();
        chanceInLowestTerms();
        chanceWithoutThese();
        yieldWho();
        yieldMean();
        yieldWithoutThese();
        cryShape();
        cryWithoutThese();
        trialsTwelve();
        trialWithoutThese();
        trialNone();
        forgersFewest();
        forgersNearly();
        forgersCantBe();
        forgersWithoutThese();
        seeds();
        counts();
        countsWithoutFair();
        imageBounds();
        backBounds();
        backToAll();
        backKeeps();
        askedChangesNothing();
        CHECK.finish();
    }

    private static void due(String call, long got, long want) {
        CHECK.due(call, got, want);
    }

    private static void worthOfSets() {
        CHECK.says("WORTH of a set of HALVES: a PAIR that FITS 40, NEARLY 20, a HALF alone 9: the most together");
        HalfFair f = Check.open(FIVE);
        due("none", f.worth(0), 0);
        due("alone", f.worth(1), 9);
        due("the last alone", f.worth(16), 9);
        due("FITS", f.worth(3), 40);
        due("NEARLY", f.worth(5), 20);
        due("two alone", f.worth(6), 18);
        due("FORGED with any", f.worth(24), 40);
        due("all", f.worth(31), 89);
        String twelve = "stalls 2 0" + ";half 0 1 0 1;half 0 1 1 1".repeat(6);
        due("twelve in six pairs", Check.open(twelve).worth(4095), 240);
        due("twelve alone", Check.open("stalls 2 0" + ";half 0 1 0 1".repeat(12)).worth(4095), 108);
        String nearly = "stalls 2 0" + ";half 0 1 0 1;half 0 2 1 1".repeat(6) + ";near 1";
        due("twelve nearly", Check.open(nearly).worth(4095), 120);
        due("one FORGED among twelve", Check.open("stalls 2 0" + ";half 0 1 0 1".repeat(12) + ";forged 5").worth(4095),
            40 + 90);
    }

    private static void worthOfPairs() {
        CHECK.says("by PAIRS, each in one at most");
        HalfFair f = Check.open("stalls 2 0;half 0 5 0 1;half 0 5 1 1;half 0 5 1 1;half 0 6 0 1;half 0 7 0 1;near 1");
        due("one with one of two", f.worth(7), 49);
        due("the other NEARLY with 3", f.worth(15), 60);
        due("two NEARLY are less than one that FITS and one alone", f.worth(1 | 2 | 8), 49);
        due("a pair of 20 is more than two alone", f.worth(2 | 8), 20);
        HalfFair chain = Check.open("stalls 2 0;half 0 1 0 1;half 0 2 1 1;half 0 2 0 1;half 0 3 1 1;near 1");
        due("FITS and two alone: 58, two NEARLY 40", chain.worth(15), 58);
        HalfFair rows = Check.open("stalls 2 0;half 0 1 0 1;half 0 1 1 1;half 0 9 0 1;half 0 9 0 1;forged 0;forged 1");
        due("FORGED ones apart", rows.worth(15), 80);
    }

    private static void worthWithoutThese() {
        CHECK.says("worth: NONE without these");
        HalfFair f = Check.open(FIVE);
        due("one HALF too many", f.worth(32), -1);
        due("one HALF too many", f.worth(33), -1);
        due("-1", f.worth(-1), -1);
        due("the least", f.worth(Integer.MIN_VALUE), -1);
        due("the greatest", f.worth(Integer.MAX_VALUE), -1);
        due("HALF 12", Check.open("stalls 2 0" + ";half 0 1 0 1".repeat(12)).worth(4096), -1);
        HalfFair none = Check.open("stalls 2 0");
        due("a FAIR without HALVES", none.worth(1), -1);
        due("no FAIR", new HalfFair().worth(0), -1);
        CHECK.says("WORTH is that of the FAIR in place of the one there was");
        HalfFair other = Check.open("stalls 2 0;half 0 1 0 1;half 0 1 1 1");
        due("FITS", other.worth(3), 40);
        other.image(0);
        Check.fair(other, "stalls 2 0;half 0 1 0 1;half 0 1 0 1");
        due("two alone", other.worth(3), 18);
        other.back(0);
        due("FITS again", other.worth(3), 40);
    }

    private static void withWhom() {
        CHECK.says("of several ways that as a row by HALVES of the set, alone (NONE) ahead of HALVES by numbers, first");
        HalfFair f = Check.open("stalls 2 0;half 0 1 0 1;half 0 1 0 1;half 0 1 1 1;half 0 1 1 1;half 0 1 0 1");
        row(f, 31, -1, 2, 1, 4, 3);
        row(f, 15, 2, 3, 0, 1, -2);
        row(f, 13, 2, -2, 0, -1, -2);
        row(f, 3, -1, -1, -2, -2, -2);
        row(f, 16, -2, -2, -2, -2, -1);
        HalfFair near = Check.open("stalls 2 0;half 0 1 0 1;half 0 2 1 1;half 0 1 1 1;half 0 2 0 1;near 1");
        row(near, 15, 2, 3, 0, 1);
        row(near, 3, 1, 0, -2, -2);
        row(near, 7, 2, -1, 0, -2);
        HalfFair apart = Check.open("stalls 2 0;half 0 1 0 1;half 0 50 1 1;half 0 2 1 1;near 1");
        row(apart, 7, 2, -1, 0);
        HalfFair forged = Check.open("stalls 2 0;half 0 1 0 1;half 0 2 0 1;half 0 3 0 1;forged 1");
        row(forged, 7, -1, 2, 1);
        row(forged, 3, 1, 0, -2);
    }

    /** With whom each HALF is in the WORTH of a set; -2 for those that are not in it. */
    private static void row(HalfFair f, int set, int... due) {
        for (int h = 0; h < due.length; h++) {
            due("with(" + set + ", " + h + ")", f.with(set, h), due[h]);
        }
    }

    private static void withWithoutThese() {
        CHECK.says("with: -2 without these (in that set)");
        HalfFair f = Check.open(FIVE);
        due("not in that set", f.with(30, 0), -2);
        due("in none", f.with(0, 0), -2);
        due("the last", f.with(16, 4), -1);
        due("no HALF 5", f.with(31, 5), -2);
        due("no HALF -1", f.with(31, -1), -2);
        due("no HALF 32", f.with(31, 32), -2);
        due("one HALF too many", f.with(32, 5), -2);
        due("one HALF too many", f.with(33, 0), -2);
        due("below 0", f.with(-1, 0), -2);
        due("no FAIR", new HalfFair().with(1, 0), -2);
    }

    private static void walkWithoutThese() {
        CHECK.says("walk: -3 without these");
        HalfFair f = Check.open(FIVE);
        for (int what = 0; what <= 2; what++) {
            due("no BUYER 3", f.walk(3, what), -3);
            due("no BUYER -1", f.walk(-1, what), -3);
        }
        due("no what 3", f.walk(0, 3), -3);
        due("no what -1", f.walk(0, -1), -3);
        // the last BUYER has 2, at SPOT 2: HALF 3 for 2 gains 9
        due("the last BUYER", f.walk(2, 0), 9);
        due("the last BUYER", f.walk(2, 1), -1);
        due("the last BUYER", f.walk(2, 2), 8);
        CHECK.says("first GOING (-2: it is dusk)");
        f.go(0, 0);
        f.go(0, 0);
        due("an HOUR ahead of dusk", f.walk(2, 1), -1);
        f.go(0, 0);
        due("at dusk", f.walk(2, 1), -2);
        due("at dusk", f.walk(2, 0), 2);
        due("at dusk", f.walk(2, 2), 0);
        due("at dusk no BUYER", f.walk(3, 1), -3);
        f.go(0, 0);
        due("from dusk on", f.walk(2, 1), -2);
    }

    private static void walkTwelveHours() {
        CHECK.says("-4 for all, if it is more than 12 HOURS till dusk");
        HalfFair f = Check.open("stalls 8 0;half 4 1 0 1;buyer 9 0;dusk 24 1");
        Check.rule(f, "go 0");
        for (int hour = 0; hour < 12; hour++) {
            for (int what = 0; what <= 2; what++) {
                due("at HOUR " + hour, f.walk(0, what), -4);
            }
            f.run(0, 1);
        }
        due("12 HOURS", f.walk(0, 0), 17);
        due("12 HOURS", f.walk(0, 1), -1);
        due("12 HOURS", f.walk(0, 2), 1);
        due("without these", f.walk(1, 0), -3);
        due("12 without dusk told", Check.open("stalls 2 0;buyer 3 0").walk(0, 0), 3);
        due("13", Check.open("stalls 2 0;buyer 3 0;dusk 13 1").walk(0, 0), -4);
    }

    private static void walkNotAtDusk() {
        CHECK.says("if they BUY .. at each HOUR ahead of dusk, where they are ahead of their GOING (not at dusk)");
        for (int hours = 1; hours <= 12; hours++) {
            // STALL 4 is four GOINGS away: it is come to at HOUR 4
            HalfFair f = Check.open("stalls 8 0;half 4 1 0 1;half 0 50 0 1;buyer 9 0;dusk " + hours + " 1");
            due("dusk " + hours, f.walk(0, 0), hours > 4 ? 25 : 17);
            due("dusk " + hours, f.walk(0, 2), hours > 4 ? 3 : 2);
        }
        CHECK.says("where they are ahead of their GOING: at first, too");
        HalfFair f = Check.open("stalls 4 1;half 0 1 0 1;buyer 9 0;dusk 1 1");
        due("at HOUR 0", f.walk(0, 0), 17);
        due("any GOING", f.walk(0, 1), -1);
        due("at HOUR 0", f.walk(0, 2), 1);
        CHECK.says("(nobody else BUYS)");
        HalfFair g = Check.open("stalls 2 0;half 0 1 0 1;buyer 9 0;buyer 9 0;dusk 2 1");
        g.buy(1, 0);
        due("what is sold is sold", g.walk(0, 0), 9);
        due("theirs counts", g.walk(1, 0), 17);
        due("not bought anew", g.walk(1, 2), 0);
        // they come by all STALLS, and by those that are beyond theirs in number, too
        HalfFair h = Check.open("stalls 8 1;half 0 1 0 1;half 0 1 1 1;buyer 9 0;buyer 9 0;dusk 12 1");
        h.buy(0, 0);
        h.buy(1, 1);
        due("neither theirs nor another one's", h.walk(0, 2), 0);
        due("neither theirs nor another one's", h.walk(1, 0), 17);
        CHECK.says("WALK of a BUYER: from where they are, with what they have");
        HalfFair two = Check.open("stalls 8 0;half 3 1 0 1;half 4 1 1 1;buyer 9 0;buyer 9 3;buyer 1 4;dusk 1 1");
        int[] sets = {0, 1, 2};
        for (int b = 0; b < 3; b++) {
            due("set of " + b, two.walk(b, 2), sets[b]);
        }
        HalfFair later = Check.open("stalls 8 0;half 4 1 0 1;buyer 9 0;dusk 5 1");
        due("in reach", later.walk(0, 2), 1);
        later.go(0, 0);
        due("asked again: not in reach now", later.walk(0, 2), 0);
    }

    private static void walkPays() {
        CHECK.says("the most that WORTH of what they have and PURSE, together, can be at dusk");
        String text = "stalls 2 0;half 0 1 0 9;half 0 1 1 10;dusk 1 1;buyer ";
        due("18 for 19", Check.open(text + "18 0").walk(0, 0), 18);
        due("18 for 19", Check.open(text + "18 0").walk(0, 2), 0);
        due("19 for 19", Check.open(text + "19 0").walk(0, 0), 40);
        due("19 for 19", Check.open(text + "19 0").walk(0, 2), 3);
        due("none at all", Check.open(text + "0 0").walk(0, 0), 0);
        due("999", Check.open(text + "999 0").walk(0, 0), 999 - 19 + 40);
        HalfFair dear = Check.open("stalls 2 0;half 0 1 0 30;half 0 1 1 11;half 0 1 1 8;buyer 99 0;dusk 1 1");
        due("41 for 40 is not bought, 8 for 9 is", dear.walk(0, 2), 1 | 4);
        due("the most", dear.walk(0, 0), 99 - 38 + 40);
        HalfFair has = Check.open("stalls 2 0;half 0 1 0 1;half 0 1 1 30;buyer 40 0;dusk 1 1");
        due("bought by hand", has.buy(0, 0), 39);
        due("with what they have", has.walk(0, 2), 2);
        due("with what they have", has.walk(0, 0), 39 - 30 + 40);
        HalfFair all = Check.open("stalls 8 0" + ";half 0 1 0 1;half 4 1 1 1".repeat(6) + ";buyer 12 0;dusk 12 1");
        due("all twelve", all.walk(0, 2), 4095);
        due("all twelve", all.walk(0, 0), 240);
    }

    private static void walkFirstOfSeveral() {
        CHECK.says("of all WALKS with so much the first GOING (the least), and the set of HALVES bought (the least as bits),"
            + " each by itself");
        HalfFair f = Check.open("stalls 8 0;half 1 1 0 1;half 7 1 0 1;buyer 1 0;dusk 2 1");
        // HALF 0 by going 1, HALF 1 by going -1: the least of each
        due("the first GOING", f.walk(0, 1), -1);
        due("the set, by another WALK", f.walk(0, 2), 1);
        HalfFair g = Check.open("stalls 8 0;half 7 1 0 1;half 1 1 0 1;buyer 1 0;dusk 2 1");
        due("the first GOING", g.walk(0, 1), -1);
        due("the set", g.walk(0, 2), 1);
        due("nothing to be bought", Check.open("stalls 8 0;buyer 1 0;dusk 2 1").walk(0, 1), -1);
        HalfFair on = Check.open("stalls 8 0;half 1 1 0 1;buyer 1 0;dusk 2 1");
        due("1 alone leads there", on.walk(0, 1), 1);
        HalfFair stay = Check.open("stalls 8 0;half 1 1 0 1;buyer 1 0;dusk 3 1");
        due("0 and 1 lead there", stay.walk(0, 1), 0);
        HalfFair any = Check.open("stalls 8 0;half 1 1 0 1;buyer 1 0;dusk 4 1");
        due("all lead there", any.walk(0, 1), -1);
        HalfFair even = Check.open("stalls 8 0;half 0 1 0 9;half 1 5 0 9;buyer 9 0;dusk 4 1");
        due("nothing is gained", even.walk(0, 0), 9);
        due("the least set", even.walk(0, 2), 0);
        due("the least GOING", even.walk(0, 1), -1);
        HalfFair moved = Check.open("stalls 3 1;half 0 1 0 1;buyer 1 1;dusk 2 1");
        due("the STALL comes to them", moved.walk(0, 1), 0);
    }

    private static void chanceInLowestTerms() {
        CHECK.says("of the HALVES at STALLS that they never SAW, those that FIT it: a fraction in lowest terms"
            + " (0 of 1, if there is none unseen)");
        for (int fitting = 0; fitting <= 6; fitting++) {
            for (int others = 0; others <= 5; others++) {
                HalfFair f = Check.open("stalls 2 0;half 0 7 0 1" + ";half 1 7 1 1".repeat(fitting)
                    + ";half 1 8 1 1".repeat(others) + ";buyer 9 0;near 9");
                int below = fitting + others;
                int common = below == 0 || fitting == 0 ? 0 : BigInteger.valueOf(fitting)
                    .gcd(BigInteger.valueOf(below)).intValue();
                due(fitting + " of " + below, f.chance(0, 0, 0), common == 0 ? 0 : fitting / common);
                due(fitting + " of " + below, f.chance(0, 0, 1), common == 0 ? 1 : below / common);
            }
        }
        HalfFair f = Check.open("stalls 3 0;half 0 7 0 1;half 1 7 1 1;half 2 7 1 1;half 2 1 1 1;buyer 9 0;buyer 9 1");
        due("1, 2 and 3 unseen", f.chance(0, 0, 0), 2);
        due("1, 2 and 3 unseen", f.chance(0, 0, 1), 3);
        f.buy(1, 1);
        due("1 is at no STALL", f.chance(0, 0, 0), 1);
        due("1 is at no STALL", f.chance(0, 0, 1), 2);
        f.go(0, -1);
        due("none unseen", f.chance(0, 0, 0), 0);
        due("none unseen", f.chance(0, 0, 1), 1);
    }

    private static void chanceWithoutThese() {
        CHECK.says("chance: NONE without these");
        HalfFair f = Check.open(FIVE);
        // BUYER 2 SAW 3 alone; 1 and the FORGED 4 fit 0
        due("part 0", f.chance(2, 0, 0), 1);
        due("part 1", f.chance(2, 0, 1), 2);
        due("part 2", f.chance(2, 0, 2), -1);
        due("part -1", f.chance(2, 0, -1), -1);
        due("no BUYER 3", f.chance(3, 0, 0), -1);
        due("no BUYER -1", f.chance(-1, 0, 0), -1);
        due("no HALF 5", f.chance(0, 5, 0), -1);
        due("no HALF -1", f.chance(0, -1, 0), -1);
        due("the last HALF: all unseen others fit it", f.chance(2, 4, 0), 3);
        due("of which it is one itself", f.chance(2, 4, 1), 4);
    }

    private static void yieldWho() {
        CHECK.says("the one to whom the other one is worth less (WORTH of what they have with it less that without; alike:"
            + " the lesser BUYER) sells");
        HalfFair f = Check.open("stalls 2 0;half 0 5 0 1;half 0 5 1 1;half 0 5 1 1;half 0 5 0 1;half 0 9 1 1;"
            + "buyer 9 0;buyer 9 0;buyer 9 0");
        f.buy(1, 0);
        f.buy(2, 1);
        due("alike: the lesser", f.yields(1, 0, 2, 1, 0), 1);
        due("alike, told the other way", f.yields(2, 1, 1, 0, 0), 1);
        due("31 and 31", f.yields(2, 1, 1, 0, 1), 31);
        f.buy(2, 3);
        // to 2 the HALF 0 is worth 49 - 40, to 1 the HALF 1 is worth 40 - 9
        due("the greater sells", f.yields(1, 0, 2, 1, 0), 2);
        due("told the other way", f.yields(2, 1, 1, 0, 0), 2);
        f.buy(1, 2);
        due("9 and 9: the lesser", f.yields(2, 1, 1, 0, 0), 1);
        f.giveUp(2, 3);
        due("the lesser sells", f.yields(2, 1, 1, 0, 0), 1);
    }

    private static void yieldMean() {
        CHECK.says("for the mean of what the two would give, downwards");
        HalfFair f = Check.open("stalls 2 0;half 0 5 0 1;half 0 6 1 1;half 0 5 1 1;half 0 6 0 1;buyer 9 0;buyer 9 0;near 1");
        f.buy(0, 0);
        f.buy(1, 1);
        due("11 and 11", f.yields(0, 0, 1, 1, 1), 11);
        f.buy(0, 2);
        // to 0 the HALF 1 is worth 9 now
        due("9 and 11", f.yields(0, 0, 1, 1, 1), 10);
        f.undo();
        f.buy(1, 3);
        due("11 and 9", f.yields(0, 0, 1, 1, 1), 10);
        due("9 is less", f.yields(0, 0, 1, 1, 0), 1);
        HalfFair odd = Check.open("stalls 2 0;half 0 5 0 1;half 0 6 1 1;half 0 6 0 1;half 0 7 1 1;half 0 5 1 1;buyer 9 0;"
            + "buyer 9 0;near 1");
        // 0 has 0 and 3, alone; 1 has 1 and 2, a pair: to 0 the HALF 1 is worth 29 - 18, to 1 the HALF 0 49 - 40
        odd.buy(0, 0);
        odd.buy(0, 3);
        odd.buy(1, 1);
        odd.buy(1, 2);
        due("11 and 9", odd.yields(0, 0, 1, 1, 1), 10);
        due("who", odd.yields(0, 0, 1, 1, 0), 1);
        HalfFair down = Check.open("stalls 2 0;half 0 5 0 1;half 0 5 1 1;half 0 4 1 1;half 0 6 1 1;buyer 9 0;buyer 9 0;near 1");
        // 0 has 0 and 2, NEARLY: with 1 they are worth 49 less 20; 1 has 1: with 0 worth 40 less 9
        down.buy(0, 0);
        down.buy(0, 2);
        down.buy(1, 1);
        due("29 and 31", down.yields(0, 0, 1, 1, 1), 30);
        due("29 is less", down.yields(0, 0, 1, 1, 0), 0);
        HalfFair half = Check.open("stalls 2 0;half 0 5 0 1;half 0 5 1 1;half 0 4 1 1;half 0 5 0 1;half 0 4 0 1;half 0 3 1 1;"
            + "buyer 9 0;buyer 9 0;near 1");
        // 0 has 0 and 2, NEARLY (29 for 1); 1 has 1, 4 and 5: NEARLY 20 and 9; with 0: 40 and 20
        half.buy(0, 0);
        half.buy(0, 2);
        half.buy(1, 1);
        half.buy(1, 4);
        half.buy(1, 5);
        due("29 and 31", half.yields(0, 0, 1, 1, 1), 30);
        half.giveUp(1, 5);
        // 1 has 1 and 4, NEARLY: with 0 worth 49 less 20
        due("29 and 29: the lesser", half.yields(0, 0, 1, 1, 0), 0);
        due("29 and 29", half.yields(1, 1, 0, 0, 1), 29);
    }

    private static void yieldWithoutThese() {
        CHECK.says("yields: NONE without these (each theirs, unlike BUYERS), or if they do not FIT at all");
        HalfFair f = Check.open(FIVE);
        f.buy(0, 0);
        f.buy(0, 1);
        f.buy(1, 2);
        f.buy(2, 3);
        for (int what = 0; what <= 1; what++) {
            due("NEARLY", f.yields(0, 0, 1, 2, what) >= 0 ? 1 : 0, 1);
            due("not at all: SIDES alike", f.yields(0, 1, 1, 2, what), -1);
            due("not at all: SHAPES apart", f.yields(2, 3, 1, 2, what), -1);
            due("the first not theirs", f.yields(0, 2, 1, 2, what), -1);
            due("the second not theirs", f.yields(0, 0, 1, 1, what), -1);
            due("at a STALL", f.yields(0, 0, 1, 4, what), -1);
            due("one BUYER", f.yields(0, 0, 0, 1, what), -1);
            due("no HALF 5", f.yields(0, 0, 1, 5, what), -1);
            due("no HALF -1", f.yields(0, -1, 1, 2, what), -1);
            due("no HALF 32", f.yields(0, 32, 1, 2, what), -1);
            due("no HALF 34", f.yields(0, 0, 1, 34, what), -1);
            due("no BUYER 3", f.yields(0, 0, 3, 2, what), -1);
            due("no BUYER -1", f.yields(-1, 0, 1, 2, what), -1);
        }
        due("no what 2", f.yields(0, 0, 1, 2, 2), -1);
        due("no what -1", f.yields(0, 0, 1, 2, -1), -1);
        f.go(1, 1);
        due("at two SPOTS, too", f.yields(0, 0, 1, 2, 0) >= 0 ? 1 : 0, 1);
    }

    private static void cryShape() {
        CHECK.says("the SHAPE to SHOUT by which, of all HALVES at STALLS that they never SAW (anywhere), most would FIT one"
            + " of theirs with that SHAPE: of SHAPES of theirs (not FORGED) the least such; how many; -2: they have none");
        HalfFair f = Check.open("stalls 8 0;half 0 40 0 1;half 0 0 0 1;half 0 99 1 1;half 0 7 0 1;half 4 40 1 1;half 4 0 1 1;"
            + "half 4 99 0 1;half 5 40 1 1;half 4 41 1 1;forged 3;buyer 99 0;buyer 99 5;near 9;hear 0");
        due("they have none", f.cry(0, 0), -2);
        due("how many", f.cry(0, 1), 0);
        f.buy(0, 3);
        due("a FORGED one alone", f.cry(0, 0), -2);
        due("how many", f.cry(0, 1), 0);
        f.buy(0, 2);
        due("SHAPE 99", f.cry(0, 0), 99);
        due("how many", f.cry(0, 1), 1);
        f.buy(0, 1);
        due("alike: the least, SHAPE 0", f.cry(0, 0), 0);
        due("how many", f.cry(0, 1), 1);
        f.buy(0, 0);
        due("most, out of hearing, too", f.cry(0, 0), 40);
        due("how many, NEARLY not", f.cry(0, 1), 2);
        f.buy(1, 7);
        due("at no STALL any more", f.cry(0, 0), 0);
        due("none is theirs", f.cry(1, 0), 40);
        due("how many fit 7", f.cry(1, 1), 0);
        HalfFair sides = Check.open("stalls 2 0;half 0 5 0 1;half 0 5 1 1;half 0 6 0 1;half 1 5 0 1;half 1 5 1 1;half 1 6 1 1;"
            + "half 1 6 1 1;buyer 9 0");
        sides.buy(0, 0);
        sides.buy(0, 1);
        sides.buy(0, 2);
        HalfFair more = Check.open("stalls 2 0;half 0 5 0 1;half 0 9 0 1;half 1 5 1 1;half 1 9 1 1;half 1 9 1 1;buyer 9 0");
        more.buy(0, 0);
        more.buy(0, 1);
        due("most, though a greater SHAPE", more.cry(0, 0), 9);
        due("how many", more.cry(0, 1), 2);
        HalfFair first = Check.open("stalls 2 0;half 1 8 0 1;half 0 5 1 1;half 1 5 0 1;buyer 9 0");
        first.buy(0, 1);
        due("HALF 2 alone fits", first.cry(0, 1), 1);
        due("either SIDE: 2 and 2, the least", sides.cry(0, 0), 5);
        due("each counts once", sides.cry(0, 1), 2);
    }

    private static void cryWithoutThese() {
        CHECK.says("cry: NONE without these");
        HalfFair f = Check.open(FIVE);
        due("the last BUYER", f.cry(2, 0), -2);
        due("what 2", f.cry(2, 2), -1);
        due("what -1", f.cry(2, -1), -1);
        due("no BUYER 3", f.cry(3, 0), -1);
        due("no BUYER -1", f.cry(-1, 1), -1);
    }

    private static void trialsTwelve() {
        CHECK.says("TRIALS 0 to 11; -2, and nothing happens, .. if there are 12");
        HalfFair f = Check.open(FIVE);
        for (int i = 1; i <= 12; i++) {
            due("TRIAL", f.trial(i % 5, (i + 1) % 5, true), i);
            due("TRIALS", f.count(7), i);
        }
        String before = Check.state(f);
        due("a 13th", f.trial(0, 1, false), -2);
        CHECK.stays("a 13th", f, before);
        due("one NONE: there are none then", f.trial(-1, 0, true), 0);
        due("TRIALS", f.count(7), 0);
        due("and on", f.trial(0, 1, true), 1);
    }

    private static void trialWithoutThese() {
        CHECK.says("trial: -2, and nothing happens, without these (unlike)");
        HalfFair f = Check.open(FIVE);
        due("the last", f.trial(4, 0, true), 1);
        String before = Check.state(f);
        due("alike", f.trial(2, 2, true), -2);
        due("no HALF 5", f.trial(5, 0, true), -2);
        due("no HALF 5", f.trial(0, 5, false), -2);
        due("no HALF -2", f.trial(-2, 0, true), -2);
        due("the other NONE", f.trial(0, -1, true), -2);
        CHECK.stays("refused", f, before);
        due("no FAIR", new HalfFair().trial(0, 1, true), -2);
    }

    private static void trialNone() {
        CHECK.says("one NONE: there are none then, 0");
        HalfFair f = Check.open(FIVE);
        due("of none", f.trial(-1, -1, false), 0);
        f.trial(0, 2, true);
        due("whatever the other one is", f.trial(-1, 99, false), 0);
        due("TRIALS", f.count(7), 0);
        due("FORGERS", f.forgers(0), 0);
        due("HONEST", f.forgers(1), 31);
        due("no FAIR", new HalfFair().trial(-1, 0, true), 0);
        due("no ACT", f.count(8), 0);
    }

    private static void forgersFewest() {
        CHECK.says("FORGERS: the fewest HALVES that, were they FORGED (and no others), all TRIALS would be so .., of several"
            + " the least as bits. HONEST: HALVES that are in no such set of so few");
        HalfFair f = Check.open("stalls 2 0" + ";half 0 1 0 1".repeat(12));
        due("without TRIALS", f.forgers(0), 0);
        due("without TRIALS", f.forgers(1), 4095);
        f.trial(11, 10, true);
        due("the least of two", f.forgers(0), 1 << 10);
        due("HONEST", f.forgers(1), 1023);
        f.trial(11, 9, true);
        due("one for both", f.forgers(0), 1 << 11);
        due("HONEST", f.forgers(1), 2047);
        f.trial(0, 1, true);
        due("two then", f.forgers(0), 1 << 11 | 1);
        due("HONEST", f.forgers(1), 2047 & ~3);
        f.trial(0, 2, false);
        due("0 is cleared", f.forgers(0), 1 << 11 | 2);
        due("HONEST", f.forgers(1), 2047 & ~2);
        f.trial(11, 3, false);
        due("11 is cleared: three then", f.forgers(0), 1 << 10 | 1 << 9 | 2);
        due("HONEST", f.forgers(1), 4095 & ~(1 << 10 | 1 << 9 | 2));
        HalfFair six = Check.open("stalls 2 0" + ";half 0 1 0 1".repeat(12));
        for (int h = 0; h < 12; h += 2) {
            six.trial(h, h + 1, true);
        }
        due("six pairs", six.forgers(0), 1 | 4 | 16 | 64 | 256 | 1024);
        due("any of them may be", six.forgers(1), 0);
    }

    private static void forgersNearly() {
        CHECK.says("(NEARLY is not FITTED)");
        HalfFair f = Check.open("stalls 2 0;half 0 5 0 1;half 0 6 1 1;half 0 5 1 1;near 1");
        f.trial(0, 1, false);
        due("NEARLY, not FITTED", f.forgers(0), 0);
        f.trial(-1, 0, true);
        f.trial(0, 1, true);
        due("NEARLY, FITTED: FORGED", f.forgers(0), 1);
        f.trial(0, 2, true);
        due("what FITS anyhow says nothing", f.forgers(1), 4);
        CHECK.says("were they FORGED (and no others)");
        HalfFair told = Check.open("stalls 2 0;half 0 5 0 1;half 0 6 0 1;half 0 7 0 1;forged 0");
        told.trial(0, 1, false);
        due("FORGED as told does not count", told.forgers(0), 0);
        HalfFair each = Check.open("stalls 2 0;half 0 5 0 1;half 0 5 1 1;half 0 7 0 1;half 0 7 1 1;half 0 9 0 1");
        each.trial(0, 2, true);
        each.trial(3, 2, true);
        each.trial(0, 1, true);
        due("each TRIAL by its own two", each.forgers(0), 1);
        due("each TRIAL by its own two", each.forgers(1), 2 | 8 | 16);
        each.trial(3, 4, false);
        due("4 is no forger, nor 3", each.forgers(0), 1);
        each.trial(3, 2, false);
        due("it can't be so", each.forgers(0), -2);
        told.trial(0, 2, true);
        due("so it is the other", told.forgers(0), 4);
    }

    private static void forgersCantBe() {
        CHECK.says("FORGERS (-2: it can't be so), HONEST, as bits (0 then)");
        HalfFair f = Check.open("stalls 2 0;half 0 5 0 1;half 0 5 1 1;half 0 7 0 1;half 0 8 0 1");
        f.trial(0, 1, false);
        due("they FIT, FORGED or not", f.forgers(0), -2);
        due("HONEST", f.forgers(1), 0);
        f.trial(-1, 0, true);
        f.trial(2, 3, true);
        due("2 or 3", f.forgers(0), 4);
        f.trial(2, 3, false);
        due("both ways", f.forgers(0), -2);
        due("HONEST", f.forgers(1), 0);
        f.trial(-1, 0, true);
        f.trial(2, 3, true);
        f.trial(2, 0, false);
        due("3 still may be", f.forgers(0), 8);
        f.trial(3, 1, false);
        due("both are cleared", f.forgers(0), -2);
    }

    private static void forgersWithoutThese() {
        CHECK.says("forgers: NONE without these, or a FAIR");
        HalfFair f = Check.open(FIVE);
        due("what 2", f.forgers(2), -1);
        due("what -1", f.forgers(-1), -1);
        HalfFair none = new HalfFair();
        due("no FAIR", none.forgers(0), -1);
        due("no FAIR", none.forgers(1), -1);
        HalfFair empty = Check.open("stalls 2 0");
        due("a FAIR without HALVES", empty.forgers(0), 0);
        due("a FAIR without HALVES", empty.forgers(1), 0);
    }

    private static void seeds() {
        CHECK.says("x becomes a number: what it was; NONE, and nothing happens, below 0; x (0 to 2147483647; 0 at first)");
        HalfFair f = new HalfFair();
        due("0 at first", f.count(9), 0);
        due("what it was", f.seed(2147483647), 0);
        due("-1", f.seed(-1), -1);
        due("the least", f.seed(Integer.MIN_VALUE), -1);
        due("nothing happens", f.count(9), 2147483647);
        due("what it was", f.seed(0), 2147483647);
        due("what it was", f.seed(5), 0);
        due("x", f.count(9), 5);
    }

    private static void counts() {
        CHECK.says("count: NONE for others");
        HalfFair f = Check.open(FIVE);
        Check.rule(f, "go 0");
        Check.rule(f, "go 1");
        f.buy(0, 0);
        f.buy(1, 2);
        f.go(0, 0);
        f.trial(0, 1, true);
        f.trial(0, 1, true);
        f.trial(0, 1, true);
        f.trial(0, 1, true);
        f.seed(7);
        f.feed(0, 0, 0, 0, 0);
        f.end(6);
        int[] due = {4, 5, 3, 2, 1, 2, 3, 4, 3, 7, 6};
        for (int what = 0; what < due.length; what++) {
            due("what " + what, f.count(what), due[what]);
        }
        due("what -1", f.count(-1), -1);
        due("what 11", f.count(11), -1);
        due("the least", f.count(Integer.MIN_VALUE), -1);
        due("the greatest", f.count(Integer.MAX_VALUE), -1);
        f.go(0, 0);
        due("HOURS till dusk", f.count(5), 1);
        f.go(0, 0);
        due("at dusk", f.count(5), 0);
        f.go(0, 0);
        due("from dusk on", f.count(5), 0);
    }

    private static void countsWithoutFair() {
        CHECK.says("count: NONE for others (5 without a FAIR, too)");
        HalfFair f = new HalfFair();
        due("5", f.count(5), -1);
        for (int what : new int[] {0, 1, 2, 3, 4, 6, 7, 8, 9, 10}) {
            due("what " + what, f.count(what), 0);
        }
        Check.fair(f, "foo");
        due("5 behind a FAULT", f.count(5), -1);
        due("the TAPE stays", f.count(10), 3);
        Check.fair(f, "stalls 2 0");
        due("5 in a FAIR", f.count(5), 12);
    }

    private static void imageBounds() {
        CHECK.says("IMAGES 0 to 3; An IMAGE is made: HOUR; NONE without it");
        HalfFair f = Check.open(FIVE);
        f.go(0, 0);
        String before = Check.state(f);
        due("-1", f.image(-1), -1);
        due("4", f.image(4), -1);
        due("the least", f.image(Integer.MIN_VALUE), -1);
        due("the greatest", f.image(Integer.MAX_VALUE), -1);
        for (int k = 0; k < 4; k++) {
            due("IMAGE " + k, f.image(k), 1);
        }
        CHECK.stays("an IMAGE is made", f, before);
        due("no IMAGE 4", f.back(4), -1);
        due("no IMAGE -1", f.back(-1), -1);
        due("the last ACT can be UNDONE still", f.undo(), 0);
        for (int k = 0; k < 4; k++) {
            due("each its own", f.image(k), 0);
            f.go(0, 0);
            due("made anew", f.image(k), 1);
            f.undo();
        }
        due("made anew", f.back(3), 1);
    }

    private static void backBounds() {
        CHECK.says("back: NONE, and nothing happens, if it was never made, or without it");
        HalfFair f = Check.open(FIVE);
        f.buy(0, 0);
        f.image(1);
        f.go(0, 1);
        String before = Check.state(f);
        for (int k : new int[] {-1, 0, 2, 3, 4, Integer.MIN_VALUE, Integer.MAX_VALUE}) {
            due("IMAGE " + k, f.back(k), -1);
        }
        CHECK.stays("refused", f, before);
        due("the one that was made", f.back(1), 0);
    }

    private static void backToAll() {
        CHECK.says("gone back to, it is as it was");
        HalfFair f = new HalfFair();
        due("an IMAGE without a FAIR", f.image(3), 0);
        Check.fair(f, FIVE);
        f.seed(41);
        f.trial(0, 3, false);
        f.trial(2, 0, true);
        f.buy(0, 0);
        f.shout(0, 50);
        f.go(1, 1);
        f.image(0);
        String then = Check.state(f);
        f.go(2, 1);
        f.buy(0, 1);
        f.giveUp(0, 0);
        f.trial(-1, 0, true);
        f.trial(4, 3, true);
        f.trial(3, 1, false);
        f.trial(2, 3, false);
        f.seed(42);
        Check.fair(f, "stalls 7 3;half 5 5 0 5;buyer 1 1;dusk 2 2;near 3;hear 4");
        due("HOUR", f.back(0), 1);
        CHECK.stays("back", f, then.replace("0 1 2 4 2 3 41", "0 1 2 4 2 0 41"));
        due("FORGERS", f.forgers(0), 4);
        due("HONEST", f.forgers(1), 27);
        due("WORTH of its HALVES", f.worth(31), 89);
        due("near", f.fit(0, 2), 1);
        due("to no FAIR", f.back(3), 0);
        due("no FAIR", f.count(5), -1);
        due("x", f.count(9), 0);
        due("no TRIALS", f.count(7), 0);
        due("no HALVES", f.half(0, 0), -1);
    }

    private static void backKeeps() {
        CHECK.says("all but the TAPE and the RULES (these stay; nothing can be UNDONE then)");
        HalfFair f = Check.open(FIVE);
        Check.rule(f, "go 1");
        f.image(0);
        Check.rule(f, "go 0");
        f.feed(0, 0, 0, 0, 0);
        f.go(0, 0);
        f.image(2);
        due("back", f.back(0), 0);
        due("RULES", f.count(3), 2);
        due("TAPE", f.count(10), 20);
        due("to be UNDONE", f.count(8), 0);
        due("undo", f.undo(), -1);
        due("another IMAGE stays", f.back(2), 1);
        due("and this one", f.back(0), 0);
        f.go(0, 1);
        due("what is done behind it can be UNDONE", f.undo(), 0);
        f.go(0, 1);
        f.buy(1, 0);
        due("an IMAGE is not changed by what is done behind it", f.back(0), 0);
        due("where", f.half(0, 3), 0);
        due("SPOT", f.buyer(0, 1), 0);
    }

    private static void askedChangesNothing() {
        CHECK.says("(By what is asked nothing changes.)");
        HalfFair f = Check.open(FIVE);
        Check.rule(f, "buy 1;go 1");
        f.seed(3);
        f.buy(0, 0);
        f.buy(1, 2);
        f.trial(0, 2, true);
        String before = Check.state(f);
        for (int b = 0; b < 3; b++) {
            for (int what = 0; what <= 2; what++) {
                f.walk(b, what);
                f.chance(b, what, what & 1);
                f.cry(b, what);
            }
        }
        for (int h = 0; h < 5; h++) {
            f.bring(0, h, h & 1);
            f.with(31, h);
            f.worth(h + 20);
        }
        f.yields(0, 0, 1, 2, 0);
        f.yields(0, 0, 1, 2, 1);
        f.forgers(0);
        f.forgers(1);
        f.fairs(0, 10, 50, 0);
        CHECK.stays("asked", f, before);
        due("what was done can be UNDONE still", f.undo(), 1);
    }
}
