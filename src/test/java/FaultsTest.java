/** FAULTS of FAIRS and RULES: each kind, at its place, and what stands at the edge of each bound. */
public final class FaultsTest {
    private static final Check CHECK = new Check();

    public static void main(String[] args) {
        fairWords();
        fairNumbers();
        fairBounds();
        ruleGrammar();
        ruleNumbers();
        ruleDepth();
        ruleParts();
        ruleClauses();
        ruleSums();
        CHECK.finish();
    }

    private static void badFair(String text, int place, int kind) {
        CHECK.due("fair of '" + text + "'", Check.fair(new HalfFair(), text), Check.fault(place, kind));
    }

    private static void goodFair(String text, int halves) {
        CHECK.due("fair of '" + text + "'", Check.fair(new HalfFair(), text), halves);
    }

    private static void badRule(String text, int place, int kind) {
        CHECK.due("rule of '" + text + "'", Check.rule(new HalfFair(), text), Check.fault(place, kind));
    }

    private static void goodRule(String text) {
        CHECK.due("rule of '" + text + "'", Check.rule(new HalfFair(), text), 0);
    }

    private static void fairWords() {
        badFair("", 0, 0);
        badFair("   ", 3, 0);
        badFair("stalls", 6, 0);
        badFair("stalls 2", 8, 0);
        badFair("stalls 2  ", 10, 0);
        badFair("stalls 2 0;", 11, 0);
        badFair("stalls 2 0;  ", 13, 0);
        badFair("stalls 2 0 0", 11, 0);
        badFair("stalls 2 0;;near 1", 11, 0);
        badFair("stallss 2 0", 0, 0);
        badFair("stall 2 0", 0, 0);
        badFair("stallsz 2 0", 0, 0);
        badFair("stallsa 2 0", 0, 0);
        badFair("stalls{2 0", 6, 0);
        badFair("stalls`2 0", 6, 0);
        badFair("stalls /2 0", 7, 0);
        badFair("stalls :2 0", 7, 0);
        badFair("Stalls 2 0", 0, 0);
        badFair(" x", 1, 0);
        badFair("stalls 2 -1", 9, 0);
        badFair("stalls 2 0;near x", 16, 0);
        badFair("stalls 2 0,near 1", 10, 0);
        badFair("stalls 2 0" + (char) 0, 10, 0);
        badFair("stalls 2 0" + (char) 9, 10, 0);
        badFair("stalls 2 0;buy 1", 11, 0);
        badFair("stalls 2 0;half 0 1 0", 21, 0);
        goodFair("stalls 2 0", 0);
        goodFair("  stalls  2  0  ;  near  3  ", 0);
        goodFair("stalls2 0;half0 1 0 1;near3", 1);
    }

    private static void fairNumbers() {
        badFair("stalls 1 0", 7, 1);
        badFair("stalls 9 0", 7, 1);
        badFair("stalls 2 8", 9, 1);
        badFair("stalls 000002 0", 7, 1);
        badFair("stalls 99999999999999999999 0", 7, 1);
        goodFair("stalls 00002 00007", 0);
        goodFair("stalls 8 7", 0);
        badFair("stalls 2 0;half 2 0 0 1", 16, 1);
        badFair("stalls 2 0;half 0 100 0 1", 18, 1);
        badFair("stalls 2 0;half 0 0 2 1", 20, 1);
        badFair("stalls 2 0;half 0 0 0 0", 22, 1);
        badFair("stalls 2 0;half 0 0 0 100", 22, 1);
        goodFair("stalls 2 0;half 1 99 1 99", 1);
        badFair("stalls 2 0;forged 0", 18, 1);
        badFair("stalls 2 0;half 0 0 0 1;forged 1", 31, 1);
        goodFair("stalls 2 0;half 0 0 0 1;forged 0;forged 0", 1);
        badFair("stalls 2 0;buyer 1000 0", 17, 1);
        badFair("stalls 2 0;buyer 0 2", 19, 1);
        goodFair("stalls 2 0;buyer 999 1", 0);
        badFair("stalls 2 0;club 0 1", 16, 1);
        badFair("stalls 2 0;buyer 0 0;club 0 0", 28, 1);
        badFair("stalls 2 0;buyer 0 0;club 0 1", 28, 1);
        badFair("stalls 2 0;buyer 0 0;club 0", 27, 0);
        badFair("stalls 2 0;buyer 0 0;club 0 x", 28, 0);
        badFair("stalls 2 0;buyer 0 0;club 1 0", 26, 1);
        goodFair("stalls 2 0;buyer 0 0;buyer 0 1;club 1 0;club 0 1", 0);
        badFair("stalls 2 0;near 10", 16, 1);
        goodFair("stalls 2 0;near 9;hear 7;dusk 24 99", 0);
        badFair("stalls 2 0;dusk 0 1", 16, 1);
        badFair("stalls 2 0;dusk 25 1", 16, 1);
        badFair("stalls 2 0;dusk 1 0", 18, 1);
        badFair("stalls 2 0;dusk 1 100", 18, 1);
        badFair("stalls 2 0;hear 8", 16, 1);
    }

    private static void fairBounds() {
        badFair("half 0 0 0 1", 0, 4);
        badFair(" near", 1, 4);
        badFair("stalls 2 0;stalls 2 0", 11, 4);
        badFair("stalls 2 0;near 1; near 1", 19, 4);
        badFair("stalls 2 0;dusk 1 1;dusk 1 1", 20, 4);
        badFair("stalls 2 0;hear 1;hear 1", 18, 4);
        String buyers = "stalls 2 0" + ";buyer 0 0".repeat(4);
        goodFair(buyers, 0);
        badFair(buyers + ";buyer", 51, 4);
        String halves = "stalls 2 0" + ";half 0 0 0 1".repeat(12);
        goodFair(halves, 12);
        badFair(halves + ";half 0 0 0 1", 10 + 12 * 13 + 1, 4);
        String clubs = "stalls 2 0;buyer 0 0;buyer 0 0" + ";club0 1".repeat(37);
        goodFair(clubs, 0);
        badFair(clubs + ";near 1", 30 + 37 * 8 + 1, 4);
        badFair(clubs + ";nearx", 30 + 37 * 8 + 1, 0);
        badFair(clubs + ";", 30 + 37 * 8 + 1, 0);
        String full = "stalls 2 0;" + " ".repeat(383) + "near 1";
        goodFair(full, 0);
    }

    private static void ruleGrammar() {
        badRule("", 0, 0);
        badRule("buy", 3, 0);
        badRule("buys 1", 0, 0);
        badRule("sell 1", 0, 0);
        badRule("buy 1;", 6, 0);
        badRule("buy 1 2", 6, 0);
        badRule("buy 1 iff", 6, 0);
        badRule("buy 1 if", 8, 0);
        badRule("go x", 3, 0);
        badRule("go -1", 3, 0);
        badRule("go [1]", 3, 0);
        badRule("go not", 3, 0);
        badRule("buy 5 %", 7, 0);
        badRule("buy 5 + ;", 8, 0);
        badRule("buy 5 ^ 2", 6, 0);
        badRule("go 1 if hour", 12, 0);
        badRule("go 1 if hour;go 2", 12, 0);
        badRule("go 1 if hour = 1]", 16, 0);
        badRule("go 1 if [hour = 1", 17, 0);
        badRule("go 1 if [hour = 1;go 1", 17, 0);
        badRule("go 1 if [hour] = 1", 13, 0);
        badRule("go 1 if hour < = 1", 15, 0);
        badRule("go 1 if hour =< 1", 14, 0);
        badRule("go 1 if hour = 1 = 1", 17, 0);
        badRule("go 1 if hour = 1 andhas = 1", 17, 0);
        badRule("go 1 if hour = 1 and", 20, 0);
        badRule("go 1 if hour = 1 or or", 20, 0);
        badRule("go 1 if nothour = 1", 8, 0);
        badRule("go 1 if not", 11, 0);
        badRule("go 1 if ][", 8, 0);
        badRule("go Hour", 3, 0);
        goodRule("buy1if1<=2or[not[3>=4]and5=6];go0");
        goodRule("  buy  known  if  not  not  left  >  has  ");
        goodRule("buy buyer+purse+spot+hour+left+has+half+shape+side+price+fits+nearly+known");
        goodRule("go 1 if [hour = 1 or has = 2] and [not purse < 3]");
    }

    private static void ruleNumbers() {
        goodRule("buy 99999");
        goodRule("buy 00000");
        badRule("buy 100000", 4, 1);
        badRule("buy 1 + 000001", 8, 1);
        badRule("buy 1 if 123456 = x", 9, 1);
    }

    private static void ruleDepth() {
        goodRule("go 1 if " + "[".repeat(10) + "1=1" + "]".repeat(10));
        badRule("go 1 if " + "[".repeat(11) + "1=1" + "]".repeat(11), 18, 2);
        goodRule("go 1 if " + "not ".repeat(10) + "1=1");
        badRule("go 1 if " + "not ".repeat(11) + "1=1", 48, 2);
        badRule("go 1 if " + "not [".repeat(5) + " not", 34, 2);
        badRule("go 1 if " + "not [".repeat(5) + " [", 34, 2);
        goodRule("go 1 if " + "[".repeat(10) + "1=1" + "]".repeat(10) + " and " + "[".repeat(10) + "1=1" + "]".repeat(10));
        goodRule("go 1 if not not not not 1=1 or not not not not not not not 1=1");
    }

    private static void ruleParts() {
        String sixty = "buy 1" + "+1".repeat(59);
        goodRule(sixty);
        badRule(sixty + "+1", 5 + 118 + 1, 3);
        badRule(sixty + "+ has", 5 + 118 + 2, 3);
        badRule(sixty + "+x", 5 + 118 + 1, 0);
        badRule(sixty + "+123456", 5 + 118 + 1, 1);
        badRule(sixty + ";go 1", 5 + 118 + 4, 3);
        String facts = "buy 1 if 1=1" + " and 1=1".repeat(18);
        // 1 + 19 * 3 = 58
        goodRule(facts + ";buy 1 + 1");
        badRule(facts + " and 1 = 1", facts.length() + 9, 3);
        badRule(facts + " and 1 + 1 = 1", facts.length() + 11, 3);
        badRule(facts + " and 1 + 1 + 1 = 1", facts.length() + 13, 3);
        badRule(facts + " and 1 + 1 ! 1", facts.length() + 11, 0);
        badRule(facts + " and [1 + 1]", facts.length() + 11, 0);
    }

    private static void ruleClauses() {
        String twelve = "buy 1" + ";go 1".repeat(11);
        goodRule(twelve);
        badRule(twelve + ";go 1", 5 + 55 + 1, 4);
        badRule(twelve + "; go", 5 + 55 + 2, 4);
        badRule(twelve + ";stay", 5 + 55 + 1, 0);
        badRule(twelve + ";", 5 + 55 + 1, 0);
    }

    /** A SUM holds if the BUYER goes onwards by it. */
    private static void holds(String test) {
        HalfFair f = Check.open("stalls 3 0;buyer 7 1");
        CHECK.due("rule of " + test, Check.rule(f, "go 1 if " + test), 0);
        f.run(0, 1);
        CHECK.due(test, f.buyer(0, 1), 2);
    }

    private static void ruleSums() {
        holds("1 + 2 * 3 = 7");
        holds("2 * 3 + 1 = 7");
        holds("9 - 3 - 2 = 4");
        holds("9 - 2 * 3 - 1 = 2");
        holds("100 / 7 / 2 = 7");
        holds("0 - 7 / 2 = 0 - 3");
        holds("17 % 5 * 2 = 4");
        holds("5 / 0 = 0 and 5 % 0 = 0");
        holds("1 - 2 < 0");
        holds("purse = 7 and spot = 1 and buyer = 0 and hour = 0 and left = 12 and has = 0");
        holds("not 1 = 2 and 1 <= 1 and 1 >= 1 and not 1 < 1 and not 1 > 1");
        holds("1 = 1 or 1 = 2 and 1 = 3");
        holds("not [1 = 1 or 1 = 2] or 1 = 1");
        holds("not [[1 = 1 or 1 = 2] and 1 = 3]");
        holds("not not 1 = 1");
        // 2 to the 63rd goes round to below 0, twice that to 0
        String twoTo60 = "32768*32768*32768*32768";
        holds(twoTo60 + "*8 < 0 and " + twoTo60 + "*16 = 0");
        holds(twoTo60 + "*8 - 1 > 0");
        holds("0 - 1 * 7 % 3 = 0 - 1");
        holds(twoTo60 + "*8/2 < 0");
        holds(twoTo60 + "*8%3 = 0 - 2");
    }
}
