/** Terms, part I: each sentence with a bound, on both sides of it; a refused text with what stays behind it. */
public final class TextBoundsTest {
    private static final Check CHECK = new Check();
    private static final String[] LATER = {"half 0 0 0 1", "forged 0", "buyer 0 0", "club 0 1", "near 1", "dusk 1 1",
        "hear 1"};
    private static final String[] WORDS = {"buyer", "purse", "spot", "hour", "left", "has", "half", "shape", "side",
        "price", "fits", "nearly", "known"};

    public static void main(String[] args) {
        bytesOfAFair();
        bytesOfARule();
        clausesOfAFair();
        stallsNumbers();
        stallsFirst();
        halfNumbers();
        forgedNumbers();
        buyerNumbers();
        clubNumbers();
        nearNumbers();
        duskNumbers();
        hearNumbers();
        manyHalves();
        manyBuyers();
        withoutNearDuskHear();
        clausesOfARule();
        manyRules();
        digits();
        smallLetters();
        blanks();
        deep();
        sixty();
        firstFault();
        faultAtTheEnd();
        leastOfOnePlace();
        behindAFault();
        CHECK.finish();
    }

    private static void fits(String text, int halves) {
        CHECK.due("fair '" + text + "'", Check.fair(new HalfFair(), text), halves);
    }

    private static void fails(String text, int place, int kind) {
        CHECK.due("fair '" + text + "'", Check.fair(new HalfFair(), text), Check.fault(place, kind));
    }

    private static void rules(String text) {
        CHECK.due("rule '" + text + "'", Check.rule(new HalfFair(), text), 0);
    }

    private static void failsRule(String text, int place, int kind) {
        CHECK.due("rule '" + text + "'", Check.rule(new HalfFair(), text), Check.fault(place, kind));
    }

    /** What stands ahead of one NUMBER and behind it, with the least and the most that it may be. */
    private static void number(String ahead, int least, int most, String behind) {
        for (int n : new int[] {least, most}) {
            CHECK.due("fair '" + ahead + n + behind + "'", Check.fair(new HalfFair(), ahead + n + behind) >= 0, true);
        }
        if (least > 0) {
            fails(ahead + (least - 1) + behind, ahead.length(), 1);
        }
        fails(ahead + (most + 1) + behind, ahead.length(), 1);
    }

    private static void bytesOfAFair() {
        CHECK.says("A FAIR is a text of at most 400 bytes");
        String head = "stalls 2 0;buyer 7 1;near";
        fits(head + " ".repeat(399 - head.length()) + "3", 0);
        fails(head + " ".repeat(399 - head.length()) + "x", 399, 0);
        fails(head + " ".repeat(400 - head.length()), 400, 0);
        HalfFair f = new HalfFair();
        Check.tape(f, head + " ".repeat(399 - head.length()) + "3");
        CHECK.due("feed behind 400", f.feed(0, 0, 0, 0, 0), -1);
        CHECK.due("the 400 are the FAIR", f.fair(), 0);
        CHECK.due("PURSE", f.buyer(0, 0), 7);
    }

    private static void bytesOfARule() {
        CHECK.says("RULES 0 to 5: texts likewise");
        rules("go" + " ".repeat(397) + "1");
        failsRule("go" + " ".repeat(397) + ";", 399, 0);
        failsRule("go" + " ".repeat(398), 400, 0);
    }

    private static void clausesOfAFair() {
        CHECK.says("CLAUSE { ; CLAUSE }, 40 at most");
        String forty = "stalls 2 0;half 0 0 0 1" + ";forged 0".repeat(38);
        fits(forty, 1);
        fails(forty + ";forged 0", forty.length() + 1, 4);
        fails(forty + ";  forged 0", forty.length() + 3, 4);
        fails(forty + ";hear 1", forty.length() + 1, 4);
        fails(forty + ";", forty.length() + 1, 0);
        fits("stalls 2 0", 0);
        fails("", 0, 0);
        fails(";stalls 2 0", 0, 0);
        fails("stalls 2 0;;near 1", 11, 0);
    }

    private static void stallsNumbers() {
        CHECK.says("stalls NUMBER NUMBER (STALLS 2 to 8, SHIFT 0 to 7)");
        number("stalls ", 2, 8, " 0");
        number("stalls 8 ", 0, 7, "");
        number("stalls 2 ", 0, 7, "");
        CHECK.due("STALLS 2", Check.open("stalls 2 0").count(0), 2);
        CHECK.due("STALLS 8", Check.open("stalls 8 7").count(0), 8);
        CHECK.due("SHIFT 7", Check.open("stalls 8 7").spot(0, 1), 7);
        CHECK.due("SHIFT 0", Check.open("stalls 8 0").spot(3, 99), 3);
    }

    private static void stallsFirst() {
        CHECK.says("stalls: once, the first CLAUSE");
        for (String later : LATER) {
            fails(later + ";stalls 2 0", 0, 4);
            fails("  " + later, 2, 4);
        }
        fails("stalls 2 0;stalls 2 0", 11, 4);
        fails("stalls 2 0;near 1; stalls 2 0", 19, 4);
    }

    private static void halfNumbers() {
        CHECK.says("half NUMBER NUMBER NUMBER NUMBER (a STALL, SHAPE 0 to 99, SIDE 0 or 1, PRICE 1 to 99)");
        number("stalls 2 0;half ", 0, 1, " 0 0 1");
        number("stalls 8 0;half ", 0, 7, " 0 0 1");
        number("stalls 2 0;half 0 ", 0, 99, " 0 1");
        number("stalls 2 0;half 0 0 ", 0, 1, " 1");
        number("stalls 2 0;half 0 0 0 ", 1, 99, "");
        HalfFair least = Check.open("stalls 2 0;half 0 0 0 1");
        HalfFair most = Check.open("stalls 2 0;half 1 99 1 99");
        int[] mostWant = {99, 1, 99, 1, 0};
        int[] leastWant = {0, 0, 1, 0, 0};
        for (int what = 0; what < 5; what++) {
            CHECK.due("least, what " + what, least.half(0, what), leastWant[what]);
            CHECK.due("most, what " + what, most.half(0, what), mostWant[what]);
        }
    }

    private static void forgedNumbers() {
        CHECK.says("forged NUMBER (a HALF that was told; more than once, too)");
        fails("stalls 2 0;forged 0;half 0 0 0 1", 18, 1);
        number("stalls 2 0;half 0 0 0 1;forged ", 0, 0, "");
        String twelve = "stalls 2 0" + ";half 0 0 0 1".repeat(12);
        number(twelve + ";forged ", 0, 11, "");
        fits("stalls 2 0;half 0 0 0 1;forged 0;forged 0;forged 0", 1);
        HalfFair f = Check.open(twelve + ";forged 11;forged 11;forged 0");
        for (int h = 0; h < 12; h++) {
            CHECK.due("FORGED " + h, f.half(h, 4), h == 0 || h == 11 ? 1 : 0);
        }
    }

    private static void buyerNumbers() {
        CHECK.says("buyer NUMBER NUMBER (PURSE 0 to 999, SPOT)");
        number("stalls 2 0;buyer ", 0, 999, " 0");
        number("stalls 2 0;buyer 0 ", 0, 1, "");
        number("stalls 8 0;buyer 0 ", 0, 7, "");
        HalfFair f = Check.open("stalls 8 0;buyer 999 7;buyer 0 0");
        CHECK.due("PURSE", f.buyer(0, 0), 999);
        CHECK.due("SPOT", f.buyer(0, 1), 7);
        CHECK.due("PURSE", f.buyer(1, 0), 0);
        CHECK.due("SPOT", f.buyer(1, 1), 0);
    }

    private static void clubNumbers() {
        CHECK.says("club NUMBER NUMBER (two BUYERS that were told: of one club)");
        String two = "stalls 2 0;buyer 0 0;buyer 0 0;";
        fits(two + "club 0 1", 0);
        fits(two + "club 1 0", 0);
        fails(two + "club 2 0", two.length() + 5, 1);
        fails(two + "club 0 2", two.length() + 7, 1);
        fails("stalls 2 0;buyer 0 0;club 0 1;buyer 0 0", 28, 1);
        fails("stalls 2 0;club 0 1;buyer 0 0;buyer 0 0", 16, 1);
        CHECK.says("1 .. a second BUYER, if it is the first");
        fails(two + "club 0 0", two.length() + 7, 1);
        fails(two + "club 1 00001", two.length() + 7, 1);
        HalfFair f = Check.open(two + "buyer 0 0;buyer 0 0;club 0 3");
        int[] clubs = {9, 2, 4, 9};
        for (int b = 0; b < 4; b++) {
            CHECK.due("club of " + b, f.buyer(b, 4), clubs[b]);
        }
    }

    private static void nearNumbers() {
        CHECK.says("near NUMBER (0 to 9; once at most, 0 without)");
        number("stalls 2 0;near ", 0, 9, "");
        fits("stalls 2 0;near 9", 0);
        fails("stalls 2 0;near 9;near 9", 18, 4);
        fails("stalls 2 0;near 0;hear 0;near 0", 25, 4);
        String halves = "stalls 2 0;half 0 20 0 1;half 0 29 1 1;half 0 30 1 1;half 0 20 1 1;half 0 21 1 1;near ";
        HalfFair nine = Check.open(halves + 9);
        CHECK.due("9 apart", nine.fit(0, 1), 1);
        CHECK.due("10 apart", nine.fit(0, 2), 0);
        HalfFair zero = Check.open(halves + 0);
        CHECK.due("near 0, alike", zero.fit(0, 3), 2);
        CHECK.due("near 0, 1 apart", zero.fit(0, 4), 0);
    }

    private static void duskNumbers() {
        CHECK.says("dusk NUMBER NUMBER (an HOUR 1 to 24, the PRICE of all from then on 1 to 99; once at most)");
        number("stalls 2 0;dusk ", 1, 24, " 1");
        number("stalls 2 0;dusk 1 ", 1, 99, "");
        fails("stalls 2 0;dusk 1 1;dusk 1 1", 20, 4);
        HalfFair late = Check.open("stalls 2 0;half 0 0 0 50;buyer 0 0;dusk 24 99");
        Check.rule(late, "go 0");
        CHECK.due("till dusk", late.count(5), 24);
        late.run(0, 23);
        CHECK.due("ahead of it", late.half(0, 2), 50);
        CHECK.due("till dusk", late.count(5), 1);
        late.run(0, 1);
        CHECK.due("from then on", late.half(0, 2), 99);
        CHECK.due("till dusk", late.count(5), 0);
        HalfFair soon = Check.open("stalls 2 0;half 0 0 0 50;buyer 0 0;dusk 1 1");
        CHECK.due("till dusk", soon.count(5), 1);
        CHECK.due("ahead of it", soon.half(0, 2), 50);
        soon.go(0, 0);
        CHECK.due("from then on", soon.half(0, 2), 1);
        soon.go(0, 0);
        CHECK.due("from then on", soon.half(0, 2), 1);
    }

    private static void hearNumbers() {
        CHECK.says("hear NUMBER (0 to 7; once at most)");
        number("stalls 2 0;hear ", 0, 7, "");
        fails("stalls 2 0;hear 1;hear 1", 18, 4);
        CHECK.due("hear 7", Check.open("stalls 8 0;half 4 0 0 1;buyer 1 0;hear 7").shout(0, 0), 1);
        CHECK.due("hear 0", Check.open("stalls 8 0;half 1 0 0 1;buyer 1 0;hear 0").shout(0, 0), 0);
    }

    private static void manyHalves() {
        CHECK.says("HALVES 0 to 11, in the order told");
        StringBuilder text = new StringBuilder("stalls 2 0");
        for (int h = 0; h < 12; h++) {
            fits(text.toString(), h);
            text.append(";half 0 ").append(90 - h).append(" 0 1");
        }
        fits(text.toString(), 12);
        fails(text + ";half 0 0 0 1", text.length() + 1, 4);
        fails(text + " ; half", text.length() + 3, 4);
        HalfFair f = Check.open(text.toString());
        for (int h = 0; h < 12; h++) {
            CHECK.due("SHAPE of " + h, f.half(h, 0), 90 - h);
        }
        CHECK.due("none 12", f.half(12, 0), -1);
    }

    private static void manyBuyers() {
        CHECK.says("BUYERS 0 to 3, in the order told");
        StringBuilder text = new StringBuilder("stalls 4 0");
        for (int b = 0; b < 4; b++) {
            CHECK.due("BUYERS", Check.open(text.toString()).count(2), b);
            text.append(";buyer ").append(10 + b).append(' ').append(3 - b);
        }
        HalfFair f = Check.open(text.toString());
        CHECK.due("BUYERS", f.count(2), 4);
        for (int b = 0; b < 4; b++) {
            CHECK.due("PURSE", f.buyer(b, 0), 10 + b);
            CHECK.due("SPOT", f.buyer(b, 1), 3 - b);
        }
        fails(text + ";buyer 0 0", text.length() + 1, 4);
        fails(text + "; buyer", text.length() + 2, 4);
    }

    private static void withoutNearDuskHear() {
        HalfFair f = Check.open("stalls 6 0;half 0 10 0 9;half 0 11 1 9;half 1 10 1 9;half 2 10 1 9;buyer 9 0");
        CHECK.says("near: 0 without");
        CHECK.due("1 apart", f.fit(0, 1), 0);
        CHECK.says("hear: 1 without");
        CHECK.due("STALL 1, not STALL 2", f.shout(0, 10), 1);
        CHECK.says("dusk: 12 and 5 without");
        CHECK.due("till dusk", f.count(5), 12);
        Check.rule(f, "go 0");
        f.run(0, 11);
        CHECK.due("HOUR 11", f.half(0, 2), 9);
        f.run(0, 1);
        CHECK.due("HOUR 12", f.half(0, 2), 5);
    }

    private static void clausesOfARule() {
        CHECK.says("12 CLAUSES at most");
        String eleven = "go 1;".repeat(11);
        rules(eleven + "buy 1");
        failsRule(eleven + "buy 1;go 1", 61, 4);
        failsRule(eleven + "buy 1;  buy 1", 63, 4);
        failsRule(eleven + "buy 1;", 61, 0);
        failsRule(eleven, 55, 0);
    }

    private static void manyRules() {
        CHECK.says("RULES 0 to 5");
        HalfFair f = Check.open("stalls 5 0;buyer 0 0");
        for (int r = 0; r < 6; r++) {
            CHECK.due("RULE", Check.rule(f, "go 1 if hour = " + r), r);
        }
        Check.tape(f, "go 1");
        String before = Check.state(f);
        CHECK.due("a seventh", f.rule(), -1);
        CHECK.stays("a seventh", f, before);
        CHECK.due("there is none", f.run(6, 1), -1);
        for (int r = 0; r < 6; r++) {
            f.run(r, 1);
            CHECK.due("each its own", f.buyer(0, 1), (r + 1) % 5);
        }
    }

    private static void digits() {
        CHECK.says("NUMBER (1 to 5 digits, as far as digits go on)");
        rules("buy 0");
        rules("buy 99999");
        rules("buy 00001");
        failsRule("buy 000001", 4, 1);
        failsRule("buy 100000", 4, 1);
        failsRule("buy 99999999999999999999999", 4, 1);
        failsRule("buy 1 2", 6, 0);
        fits("stalls 00008 00007", 0);
        fails("stalls 000008 0", 7, 1);
        fails("stalls 2 000000", 9, 1);
        fails("stalls 4294967298 0", 7, 1);
        fails("stalls 20", 7, 1);
        HalfFair f = Check.open("stalls 3 0;buyer 0 0");
        Check.rule(f, "go 1 if 99999 - 99998 = 1 and 00010 = 10 and 99999 > 10000");
        f.run(0, 1);
        CHECK.due("five digits count", f.buyer(0, 1), 1);
    }

    private static void smallLetters() {
        CHECK.says("WORDS (small letters, as far as these go on)");
        for (String word : WORDS) {
            rules("buy " + word);
            rules("go " + word + "+1");
            failsRule("buy " + word + "s", 4, 0);
            failsRule("buy " + word.substring(0, word.length() - 1), 4, 0);
            failsRule("buy " + word.toUpperCase(), 4, 0);
            failsRule("buy " + word + "if", 4, 0);
        }
        fails("stallsa2 0", 0, 0);
        fails("stallsz2 0", 0, 0);
        fails("stalls`2 0", 6, 0);
        fails("stalls{2 0", 6, 0);
        failsRule("Buy 1", 0, 0);
        failsRule("goo 1", 0, 0);
        failsRule("g 1", 0, 0);
        failsRule("buyhalf", 0, 0);
        failsRule("buy 1 iff 1=1", 6, 0);
        failsRule("buy 1 i 1=1", 6, 0);
        failsRule("buy 1 if 1=1 an 1=1", 13, 0);
        failsRule("buy 1 if 1=1 andor 1=1", 13, 0);
        failsRule("buy 1 if nota 1=1", 9, 0);
        failsRule("buy 1 if no 1=1", 9, 0);
        rules("buy1if1=1and2=2or3=3");
        for (String kind : new String[] {"half", "forged", "buyer", "club", "near", "dusk", "hear"}) {
            fails("stalls 2 0;" + kind + "a 1", 11, 0);
            fails("stalls 2 0;" + kind.substring(1) + " 1", 11, 0);
        }
    }

    private static void blanks() {
        CHECK.says("Blanks (32) stand between as one likes");
        fits("stalls2 0;half0 1 0 1;forged0;buyer0 1;near1;dusk1 1;hear1", 1);
        fits("   stalls   2   0   ;   half   0   1   0   1   ", 1);
        rules("buy1+2*has if[not 1<2or 3>=4]and 5=5;go0-1");
        rules("  buy  1  +  2  if  [  not  [  1  <=  2  ]  ]  ;  go  0  ");
        for (char sign : new char[] {0, 9, 10, 13, 31, 33, 160, 255}) {
            fails("stalls 2 0" + sign, 10, 0);
            fails("stalls 2" + sign + "0", 8, 0);
            fails(sign + "stalls 2 0", 0, 0);
            failsRule("buy" + sign + "1", 3, 0);
            failsRule("buy 1" + sign, 5, 0);
        }
        failsRule("buy 1 if 1 < = 2", 13, 0);
        failsRule("buy 1 if 1 > = 2", 13, 0);
        failsRule("buy pur se", 4, 0);
        failsRule("buy 1 2", 6, 0);
    }

    private static void deep() {
        CHECK.says("[ and not lie within one another 10 deep at most; 2 too deep (at the sign that opens, or the word not)");
        String shut = "1=1" + "]".repeat(10);
        rules("go 1 if " + "[".repeat(10) + shut);
        failsRule("go 1 if " + "[".repeat(11) + shut + "]", 18, 2);
        rules("go 1 if " + "not ".repeat(10) + "1=1");
        failsRule("go 1 if " + "not ".repeat(11) + "1=1", 48, 2);
        rules("go 1 if " + "not[".repeat(5) + "1=1" + "]".repeat(5));
        failsRule("go 1 if " + "not[".repeat(5) + "  [1=1]" + "]".repeat(5), 30, 2);
        failsRule("go 1 if " + "not[".repeat(5) + "not 1=1" + "]".repeat(5), 28, 2);
        failsRule("go 1 if " + "[".repeat(10) + "1=1 and not 1=1" + "]".repeat(10), 26, 2);
        failsRule("go 1 if " + "[".repeat(10) + "1=1 or [1=1]" + "]".repeat(10), 25, 2);
        String ten = "[".repeat(10) + shut;
        rules("go 1 if " + ten + " and " + ten + " or " + ten + ";go 1 if " + ten);
        failsRule("go 1 if " + ten + " and [" + ten + "]", 8 + 23 + 5 + 10, 2);
        rules("go 1 if not not not not not 1=1 and not not not not not not 1=1");
        failsRule("go 1 if " + "[".repeat(10) + "[", 18, 2);
        failsRule("go 1 if " + "[".repeat(10) + "not", 18, 2);
    }

    private static void sixty() {
        CHECK.says("at most 60 VALUES (of SUMS) and FACTS made of a SIGN, together");
        String values = "buy 1" + "*1".repeat(59);
        rules(values);
        failsRule(values + "-1", values.length() + 1, 3);
        failsRule(values + " -  has", values.length() + 4, 3);
        failsRule(values + ";go 1", values.length() + 4, 3);
        failsRule(values + " if 1=1", values.length() + 4, 3);
        // 1 + 19 * 3 = 58
        String facts = "buy 1 if 1=1" + " or 1=1".repeat(18);
        rules(facts);
        rules(facts + ";go 1");
        rules(facts + ";go 1;go 1");
        failsRule(facts + ";go 1;go 1;go 1", facts.length() + 14, 3);
        failsRule(facts + " or 1 = 1", facts.length() + 8, 3);
        failsRule(facts + " or 1+1 = 1", facts.length() + 8, 3);
        failsRule(facts + " or 1+1+1 = 1", facts.length() + 8, 3);
        failsRule(facts + " or 1+1 <= 1", facts.length() + 8, 3);
        String twenty = "buy 1+1+1 if [1=1]" + " and not 1=1".repeat(18);
        // 3 + 19 * 3 = 60: what joins FACTS, not and brackets don't count
        rules(twenty);
        failsRule(twenty + " and 1=1", twenty.length() + 5, 3);
        failsRule("buy 1+1+1" + " if 1=1" + " and 1=1".repeat(18) + ";go 1", 9 + 7 + 8 * 18 + 4, 3);
        String fiftyNine = "buy 1+1 if 1=1" + " and 1=1".repeat(18);
        // 2 + 57 = 59: one VALUE more may come, but not its SIGN
        failsRule(fiftyNine + " and 1<1", fiftyNine.length() + 6, 3);
        rules("buy 1" + "+1".repeat(56) + " if 1=1");
        failsRule("buy 1" + "+1".repeat(57) + " if 1=1", 5 + 114 + 6, 3);
        failsRule("buy 1" + "+1".repeat(58) + " if 1=1", 5 + 116 + 5, 3);
        HalfFair f = new HalfFair();
        for (int r = 0; r < 6; r++) {
            CHECK.due("each RULE has its own 60", Check.rule(f, values), r);
        }
        HalfFair refused = new HalfFair();
        for (int i = 0; i < 8; i++) {
            CHECK.due("refused", Check.rule(refused, values + "+1"), Check.fault(values.length() + 1, 3));
        }
        CHECK.due("behind those that were refused", Check.rule(refused, "go " + values.substring(4)), 0);
        Check.fair(refused, "stalls 3 0;buyer 0 0");
        refused.run(0, 1);
        CHECK.due("all of it counts: it is 1", refused.buyer(0, 1), 1);
    }

    private static void firstFault() {
        CHECK.says("FAULTS, the first along the text");
        fails("stalls 9 9;half", 7, 1);
        fails("stalls 2 9;near 10;foo", 9, 1);
        fails("stalls 2 0;foo;stalls 2 0", 11, 0);
        fails("near 10;foo", 0, 4);
        failsRule("buy 123456 + foo", 4, 1);
        failsRule("buy foo + 123456", 4, 0);
        failsRule("go 1 if " + "[".repeat(11) + "foo", 18, 2);
        failsRule("go 1 if foo < " + "[".repeat(11), 8, 0);
        failsRule("buy 1" + "+1".repeat(60) + "+foo", 5 + 119, 3);
        CHECK.says("1 + 8 * its place and the kind");
        CHECK.due("place 0, kind 0", Check.fair(new HalfFair(), "x"), -3);
        CHECK.due("place 0, kind 4", Check.fair(new HalfFair(), "near"), -7);
        CHECK.due("place 7, kind 1", Check.fair(new HalfFair(), "stalls 1"), -2 - 58);
        CHECK.due("place 18, kind 2", Check.rule(new HalfFair(), "go 1 if [[[[[[[[[[["), -2 - 147);
        CHECK.due("place 124, kind 3", Check.rule(new HalfFair(), "buy 1" + "+1".repeat(60)), -2 - (1 + 992 + 3));
        CHECK.due("place 400, kind 0", Check.rule(new HalfFair(), "go" + " ".repeat(398)), -2 - 3201);
    }

    private static void faultAtTheEnd() {
        CHECK.says("0 a byte or WORD that can't stand there, or the end (behind the last byte)");
        String[] open = {"", " ", "stalls", "stalls ", "stalls 2", "stalls 2 ", "stalls 2 0;", "stalls 2 0;half",
            "stalls 2 0;half 0", "stalls 2 0;half 0 0", "stalls 2 0;half 0 0 0", "stalls 2 0;half 0 0 0 ",
            "stalls 2 0;half 0 0 0 1;forged", "stalls 2 0;buyer", "stalls 2 0;buyer 0", "stalls 2 0;buyer 0 0;club",
            "stalls 2 0;buyer 0 0;club 0", "stalls 2 0;near", "stalls 2 0;dusk", "stalls 2 0;dusk 1", "stalls 2 0;hear"};
        for (String text : open) {
            fails(text, text.length(), 0);
        }
        String[] openRules = {"", "  ", "buy", "go", "go ", "go 1 +", "go 1 -", "go 1 *", "go 1 /", "go 1 % ", "go 1;",
            "go 1 if", "go 1 if 1", "go 1 if 1 + 1", "go 1 if 1 <", "go 1 if 1 <=", "go 1 if 1 =", "go 1 if not",
            "go 1 if [", "go 1 if [1=1", "go 1 if 1=1 and", "go 1 if 1=1 or "};
        for (String text : openRules) {
            failsRule(text, text.length(), 0);
        }
        CHECK.says("0 a byte or WORD that can't stand there");
        fails("stalls 2 0 0", 11, 0);
        fails("stalls 2 0 near 1", 11, 0);
        fails("stalls x", 7, 0);
        fails("stalls 2 0;half 0 1 0 -1", 22, 0);
        fails("7", 0, 0);
        failsRule("buy -1", 4, 0);
        failsRule("buy ;", 4, 0);
        failsRule("buy if", 4, 0);
        failsRule("buy [1]", 4, 0);
        failsRule("buy 1 < 2", 6, 0);
        failsRule("buy 1 and 2", 6, 0);
        failsRule("go 1 if 1=1 if 1=1", 12, 0);
        failsRule("go 1 if 1=1]", 11, 0);
        failsRule("go 1 if [1=1;go 1", 12, 0);
        failsRule("go 1 if [1]=1", 10, 0);
        failsRule("go 1 if 1=1=1", 11, 0);
        failsRule("go 1 if 1=not 1=1", 10, 0);
        failsRule("go 1 if 1 ! 1", 10, 0);
    }

    private static void leastOfOnePlace() {
        CHECK.says("Of one place the least");
        String forty = "stalls 2 0;half 0 0 0 1" + ";forged 0".repeat(38);
        fails(forty + ";foo", forty.length() + 1, 0);
        fails("foo 1", 0, 0);
        String values = "buy 1" + "+1".repeat(59);
        failsRule(values + "+foo", values.length() + 1, 0);
        failsRule(values + "+", values.length() + 1, 0);
        failsRule(values + "+;", values.length() + 1, 0);
        failsRule(values + "+123456", values.length() + 1, 1);
        String twelve = "go 1" + ";go 1".repeat(11);
        failsRule(twelve + ";foo", twelve.length() + 1, 0);
        // 58 and two VALUES more: where its SIGN ought to be something else is
        String facts = "buy 1 if 1=1" + " or 1=1".repeat(18);
        failsRule(facts + " or 1+1 ; ", facts.length() + 8, 0);
    }

    private static void behindAFault() {
        CHECK.says("fair: -2 - its FAULT, and all stays");
        HalfFair f = Check.open("stalls 3 1;half 0 1 0 4;half 1 1 1 4;buyer 9 0;buyer 9 1;club 0 1");
        Check.rule(f, "buy 1");
        f.buy(0, 0);
        f.go(1, 1);
        f.trial(0, 1, true);
        f.seed(12);
        f.image(2);
        for (String text : new String[] {"", "stalls 2 0;half 0 0 0 0", "stalls 8 7;half 7 7 1 7;buyer 1 1;foo"}) {
            Check.tape(f, text);
            String before = Check.state(f);
            CHECK.due("fair of " + text, f.fair() < -2, true);
            CHECK.stays("fair of " + text, f, before);
        }
        CHECK.due("the last ACT can be UNDONE still", f.undo(), 1);
        CHECK.due("the IMAGE is there still", f.back(2), 1);
        CHECK.says("rule: The TAPE, which is empty then; -2 - its FAULT");
        Check.tape(f, "go 1;");
        CHECK.due("fault", f.rule(), Check.fault(5, 0));
        CHECK.due("the TAPE is empty", f.count(10), 0);
        CHECK.due("no RULE", f.count(3), 1);
        CHECK.due("the next bears its number", Check.rule(f, "go 1"), 1);
    }
}
