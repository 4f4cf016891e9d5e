/** Terms, part II, and promises 1 to 15: each sentence with a bound, on both sides of it; refused calls change nothing. */
public final class ActBoundsTest {
    private static final Check CHECK = new Check();
    /** STALLS stand still; 0 and 1 are at SPOT 0 with the first three HALVES, 2 is at SPOT 1, 3 at SPOT 3. */
    private static final String STILL = "stalls 4 0;half 0 10 0 4;half 0 10 1 5;half 0 20 0 1;half 1 30 0 9;"
        + "buyer 9 0;buyer 9 0;buyer 9 1;buyer 0 3;dusk 3 7";

    public static void main(String[] args) {
        newObject();
        feeding();
        ending();
        newFair();
        halfAsked();
        fitAsked();
        nearlyBound();
        forgedFits();
        buyerAsked();
        spotAsked();
        spotRound();
        farRound();
        duskPrice();
        seesAtFirst();
        seesBehindEachHour();
        seesSwapped();
        seesOnlyThen();
        sawByClub();
        going();
        goingRound();
        lastHour();
        buying();
        buyingPurse();
        shouting();
        shoutingPurse();
        shoutingNear();
        noHour();
        swapping();
        givingUp();
        undoing();
        undoneTwenty();
        undoneNone();
        allThereCanBe();
        CHECK.finish();
    }

    private static void due(String call, long got, long want) {
        CHECK.due(call, got, want);
    }

    private static void newObject() {
        CHECK.says("HalfFair(): No FAIR, no RULES");
        HalfFair f = new HalfFair();
        String before = Check.state(f);
        for (int n = -2; n <= 2; n++) {
            due("half", f.half(n, 0), -1);
            due("fit", f.fit(n, 1 - n), -1);
            due("buyer", f.buyer(n, 0), -1);
            due("spot", f.spot(n, 0), -1);
            due("go", f.go(n, 0), -1);
            due("buy", f.buy(n, 0), -1);
            due("shout", f.shout(n, 0), -1);
            CHECK.due("swap", f.swap(n, 0, 1 - n, 1), false);
            due("giveUp", f.giveUp(n, 0), -1);
            due("run", f.run(n, 1), -1);
            due("worth", f.worth(n), -1);
            due("with", f.with(1, n), -2);
            due("walk", f.walk(n, 0), -3);
            due("chance", f.chance(n, 0, 0), -1);
            due("yields", f.yields(n, 0, 1 - n, 1, 0), -1);
            due("cry", f.cry(n, 0), -1);
            due("bring", f.bring(n, 0, 0), -1);
            due("fairs", f.fairs(n, 1, 0, 0), -1);
            due("forgers", f.forgers(n), -1);
            due("back", f.back(n), -1);
        }
        due("trial", f.trial(0, 1, true), -2);
        due("undo", f.undo(), -1);
        CHECK.stays("all of these", f, before);
        int[] counts = {0, 0, 0, 0, 0, -1, 0, 0, 0, 0, 0};
        for (int what = 0; what < counts.length; what++) {
            due("count " + what, f.count(what), counts[what]);
        }
    }

    private static void feeding() {
        CHECK.says("Twenty bytes come behind the TAPE, of each number the highest first: how many it has");
        HalfFair f = new HalfFair();
        due("feed", f.feed(0x7374616c, 0x6c732038, 0x20373b68, 0x65617220, 0x373b6e65), 20);
        due("feed", f.feed(0x61722039, 0x3b627579, 0x65722039, 0x39392037, 0xff80fe81), 40);
        due("the 37th byte is 255", f.fair(), Check.fault(36, 0));
        f.end(36);
        due("fair", f.fair(), 0);
        due("SHIFT", f.spot(0, 1), 7);
        due("PURSE", f.buyer(0, 0), 999);
        due("SPOT", f.buyer(0, 1), 7);
        CHECK.says("NONE, and none comes, if it would have more than 400");
        for (int length = 381; length <= 400; length++) {
            f.end(0);
            for (int i = 0; i < 20; i++) {
                f.feed(0, 0, 0, 0, 0);
            }
            f.end(length);
            due("feed behind " + length, f.feed(1, 2, 3, 4, 5), -1);
            due("none comes", f.count(10), length);
        }
        f = new HalfFair();
        for (int i = 1; i <= 19; i++) {
            f.feed(0, 0, 0, 0, 0);
        }
        due("feed behind 380", f.feed(0, 0, 0, 0, 0), 400);
        due("count", f.count(10), 400);
    }

    private static void ending() {
        CHECK.says("The TAPE has its first n bytes alone: n; NONE, and nothing happens, if it has not so many, or n is below 0");
        HalfFair f = new HalfFair();
        due("end 0 of none", f.end(0), 0);
        due("end 1 of none", f.end(1), -1);
        Check.tape(f, "stalls 2 0;near 99");
        due("end of one more", f.end(19), -1);
        due("end below 0", f.end(-1), -1);
        due("end far below 0", f.end(Integer.MIN_VALUE), -1);
        due("end far above", f.end(Integer.MAX_VALUE), -1);
        due("nothing happens", f.count(10), 18);
        due("end of all", f.end(18), 18);
        due("all of them", f.count(10), 18);
        due("end of one less", f.end(17), 17);
        due("what was cut is gone", f.end(18), -1);
        due("the first 17: near 9", f.fair(), 0);
    }

    private static void newFair() {
        CHECK.says("The TAPE, which is empty then, is the FAIR in place of the one there was (HOUR 0, no TRIALS, nothing"
            + " to be UNDONE; x stays): how many HALVES");
        HalfFair f = Check.open(STILL);
        Check.rule(f, "go 1");
        f.seed(2147483647);
        f.buy(0, 0);
        f.buy(1, 1);
        f.go(1, 1);
        f.trial(0, 1, true);
        f.image(0);
        due("HALVES", Check.fair(f, STILL), 4);
        due("TAPE", f.count(10), 0);
        due("HOUR", f.count(4), 0);
        due("TRIALS", f.count(7), 0);
        due("to be UNDONE", f.count(8), 0);
        due("undo", f.undo(), -1);
        due("x", f.count(9), 2147483647);
        due("RULES", f.count(3), 1);
        due("where", f.half(0, 3), 0);
        due("PURSE", f.buyer(0, 0), 9);
        due("SPOT", f.buyer(0, 1), 0);
        due("has", f.buyer(0, 2), 0);
        due("has", f.buyer(1, 2), 0);
        due("SAW", f.buyer(0, 3), 7);
        due("SAW", f.buyer(1, 3), 7);
        due("the IMAGE is of the one there was", f.back(0), 1);
        due("HALVES", Check.fair(f, "stalls 2 1"), 0);
        due("no BUYERS", f.count(2), 0);
        due("no HALF", f.half(0, 0), -1);
        due("no BUYER", f.buyer(0, 0), -1);
        due("STALLS", f.spot(2, 0), -1);
        due("no HALVES at STALLS", f.count(6), 0);
    }

    private static void halfAsked() {
        CHECK.says("half: NONE without these");
        HalfFair f = Check.open(STILL);
        int[] last = {30, 0, 9, 1, 0};
        int[] second = {10, 1, 5, 0, 0};
        for (int what = 0; what < 5; what++) {
            due("the last HALF, what " + what, f.half(3, what), last[what]);
            due("HALF 1, what " + what, f.half(1, what), second[what]);
            due("no HALF 4", f.half(4, what), -1);
            due("no HALF -1", f.half(-1, what), -1);
        }
        for (int what : new int[] {-1, 5, Integer.MIN_VALUE, Integer.MAX_VALUE}) {
            due("no what " + what, f.half(0, what), -1);
        }
        CHECK.says("where it is (STALL 0 to 7, BUYERS 100 and on)");
        HalfFair ends = Check.open("stalls 8 0;half 7 0 0 1;half 0 0 0 1;buyer 1 0;buyer 0 1;buyer 0 1;buyer 1 7");
        due("STALL 7", ends.half(0, 3), 7);
        due("STALL 0", ends.half(1, 3), 0);
        ends.buy(0, 1);
        ends.buy(3, 0);
        due("BUYER 3", ends.half(0, 3), 103);
        due("BUYER 0", ends.half(1, 3), 100);
    }

    private static void fitAsked() {
        CHECK.says("fit: NONE without these (unlike)");
        HalfFair f = Check.open(STILL);
        due("alike", f.fit(0, 0), -1);
        due("the last alike", f.fit(3, 3), -1);
        due("the last", f.fit(0, 3), 0);
        due("one more", f.fit(0, 4), -1);
        due("one more", f.fit(4, 0), -1);
        due("below 0", f.fit(-1, 0), -1);
        due("below 0", f.fit(0, -1), -1);
    }

    private static void nearlyBound() {
        CHECK.says("NEARLY, if SIDES are unlike and SHAPES are apart by near at most, but not alike");
        HalfFair f = Check.open("stalls 2 0;half 0 50 0 1;half 0 50 1 1;half 0 51 1 1;half 0 53 1 1;half 0 54 1 1;"
            + "half 0 47 1 1;half 0 46 1 1;half 0 53 0 1;half 0 50 0 1;near 3");
        int[] due = {-1, 2, 1, 1, 0, 1, 0, 0, 0};
        for (int h = 0; h < due.length; h++) {
            due("with " + h, f.fit(0, h), due[h]);
            due("the other way", f.fit(h, 0), due[h]);
        }
        HalfFair ends = Check.open("stalls 2 0;half 0 0 0 1;half 0 99 1 1;half 0 9 1 1;near 9");
        due("SHAPES are in no ring", ends.fit(0, 1), 0);
        due("SHAPES 0 and 9", ends.fit(0, 2), 1);
    }

    private static void forgedFits() {
        CHECK.says("a FORGED one FITS each other one");
        HalfFair f = Check.open("stalls 2 0;half 0 1 0 1;half 0 1 0 1;half 0 99 0 1;half 0 99 1 1;half 0 2 1 1;"
            + "forged 0;forged 3;near 1");
        int[][] due = {{-1, 2, 2, 2, 2}, {2, -1, 0, 2, 1}, {2, 0, -1, 2, 0}, {2, 2, 2, -1, 2}, {2, 1, 0, 2, -1}};
        for (int a = 0; a < 5; a++) {
            for (int b = 0; b < 5; b++) {
                due(a + " with " + b, f.fit(a, b), due[a][b]);
            }
        }
    }

    private static void buyerAsked() {
        CHECK.says("buyer: NONE without these");
        HalfFair f = Check.open(STILL);
        int[] last = {0, 3, 0, 0, 8, 0};
        int[] first = {9, 0, 0, 7, 1, 0};
        for (int what = 0; what < 6; what++) {
            due("the last BUYER, what " + what, f.buyer(3, what), last[what]);
            due("the first BUYER, what " + what, f.buyer(0, what), first[what]);
            due("no BUYER 4", f.buyer(4, what), -1);
            due("no BUYER -1", f.buyer(-1, what), -1);
        }
        for (int what : new int[] {-1, 6, Integer.MIN_VALUE, Integer.MAX_VALUE}) {
            due("no what " + what, f.buyer(0, what), -1);
        }
        CHECK.says("WORTH of what they have");
        f.buy(0, 0);
        f.buy(0, 1);
        f.buy(1, 2);
        int[] worths = {40, 9, 0, 0};
        for (int b = 0; b < 4; b++) {
            due("of " + b, f.buyer(b, 5), worths[b]);
        }
    }

    private static void spotAsked() {
        CHECK.says("The SPOT of a STALL so many HOURS from now (0 to 99); NONE without these");
        HalfFair f = Check.open("stalls 7 5;buyer 0 0");
        due("0", f.spot(6, 0), 6);
        due("99", f.spot(6, 99), (6 + 99 * 5) % 7);
        due("100", f.spot(6, 100), -1);
        due("-1", f.spot(6, -1), -1);
        due("the first STALL", f.spot(0, 1), 5);
        due("no STALL 7", f.spot(7, 0), -1);
        due("no STALL -1", f.spot(-1, 0), -1);
        Check.rule(f, "go 0");
        f.run(0, 48);
        f.run(0, 48);
        f.run(0, 3);
        due("99 HOURS from HOUR 99", f.spot(6, 99), (6 + 198 * 5) % 7);
        due("100 HOURS from HOUR 99", f.spot(6, 100), -1);
    }

    private static void spotRound() {
        CHECK.says("STALL s stands at HOUR t at SPOT (s + t * SHIFT) mod STALLS");
        for (int stalls = 2; stalls <= 8; stalls++) {
            for (int shift = 0; shift <= 7; shift++) {
                HalfFair f = Check.open("stalls " + stalls + " " + shift + ";buyer 0 0");
                f.go(0, 0);
                due("the last STALL at HOUR 1", f.spot(stalls - 1, 0), (stalls - 1 + shift) % stalls);
                due("at HOUR 10", f.spot(0, 9), 10 * shift % stalls);
            }
        }
    }

    private static void farRound() {
        CHECK.says("FAR of two SPOTS: along the ring, the shorter way; at STALLS FAR at most hear");
        for (int stalls = 2; stalls <= 8; stalls++) {
            StringBuilder halves = new StringBuilder("stalls " + stalls + " 0");
            for (int s = 0; s < stalls; s++) {
                halves.append(";half ").append(s).append(" 5 0 1");
            }
            for (int hear = 0; hear <= 7; hear++) {
                for (int spot = 0; spot < stalls; spot += stalls - 1) {
                    HalfFair f = Check.open(halves + ";buyer 1 " + spot + ";hear " + hear);
                    int within = Math.min(2 * hear + 1, stalls);
                    due(stalls + " STALLS, hear " + hear, f.shout(0, 5), within - 1);
                }
            }
        }
        HalfFair moved = Check.open("stalls 5 2;half 0 5 0 1;half 1 5 0 1;half 4 5 0 1;buyer 9 0");
        // at HOUR 1 STALL 0 is at SPOT 2, 1 at 3, 4 at 1: of these 4 alone is beside SPOT 0
        moved.go(0, 0);
        due("where STALLS are now", moved.shout(0, 5), 1);
        due("which", moved.buyer(0, 3), 1 | 4);
    }

    private static void duskPrice() {
        CHECK.says("The price of a HALF now: its PRICE; from dusk on that of dusk");
        HalfFair f = Check.open(STILL);
        due("a BUYER's", f.buy(0, 0), 5);
        f.go(0, 0);
        f.go(0, 0);
        int[] prices = {4, 5, 1, 9};
        for (int h = 0; h < 4; h++) {
            due("HOUR 2", f.half(h, 2), prices[h]);
        }
        f.go(0, 0);
        for (int h = 0; h < 4; h++) {
            due("HOUR 3, dusk", f.half(h, 2), 7);
        }
        due("5 is less than 7", f.buy(0, 2), -1);
        due("BUY for 7", f.buy(1, 2), 2);
        f.go(0, 0);
        due("HOUR 4", f.half(0, 2), 7);
        f.undo();
        f.undo();
        f.undo();
        due("UNDONE, ahead of dusk again", f.half(0, 2), 4);
    }

    private static void seesAtFirst() {
        CHECK.says("Who is at a SPOT SEES all HALVES that are at the STALL there, at first");
        HalfFair f = Check.open(STILL);
        int[] saw = {7, 7, 8, 0};
        for (int b = 0; b < 4; b++) {
            due("SAW of " + b, f.buyer(b, 3), saw[b]);
        }
        HalfFair later = Check.open("stalls 2 0;buyer 0 1;half 1 0 0 1;half 0 0 0 1;half 1 1 1 1");
        due("HALVES told behind the BUYER", later.buyer(0, 3), 5);
    }

    private static void seesBehindEachHour() {
        CHECK.says("SEES .. behind each HOUR");
        HalfFair f = Check.open("stalls 4 1;half 3 1 0 1;half 2 1 0 1;half 1 1 0 1;buyer 5 0;buyer 5 2");
        due("at first none", f.buyer(0, 3), 0);
        due("at first", f.buyer(1, 3), 2);
        f.go(1, 1);
        // HOUR 1: STALL 3 is at SPOT 0, STALL 2 at SPOT 3
        due("who STAYED while another one went", f.buyer(0, 3), 1);
        due("who went along with the STALL", f.buyer(1, 3), 2);
        f.go(0, 1);
        // HOUR 2: STALL 3 is at SPOT 1, STALL 1 at SPOT 3
        due("who went along", f.buyer(0, 3), 1);
        due("who STAYED", f.buyer(1, 3), 6);
        f.buy(0, 0);
        f.go(0, 0);
        due("what one SAW stays so, sold or not", f.buyer(0, 3) & 1, 1);
        CHECK.says("GIVE UP: SEEN by others behind the next HOUR");
        HalfFair g = Check.open("stalls 3 0;half 0 1 0 9;buyer 9 0;buyer 9 1");
        g.buy(0, 0);
        g.go(0, 1);
        g.giveUp(0, 0);
        due("ahead of it", g.buyer(1, 3), 0);
        g.go(0, 0);
        due("behind it", g.buyer(1, 3), 1);
    }

    private static void seesSwapped() {
        CHECK.says("also those that are SWAPPED to them");
        HalfFair f = Check.open("stalls 3 0;half 0 1 0 1;half 0 2 0 1;half 2 1 0 1;half 2 2 0 1;buyer 9 0;buyer 9 2");
        f.buy(0, 0);
        f.buy(0, 1);
        f.buy(1, 2);
        f.buy(1, 3);
        f.go(1, 1);
        due("ahead of it", f.buyer(0, 3), 3);
        due("ahead of it", f.buyer(1, 3), 12);
        CHECK.due("SWAP", f.swap(0, 1, 1, 2), true);
        due("what was SWAPPED, no more", f.buyer(0, 3), 7);
        due("what was SWAPPED, no more", f.buyer(1, 3), 14);
        f.undo();
        due("UNDONE", f.buyer(0, 3), 3);
        due("UNDONE", f.buyer(1, 3), 12);
    }

    private static void seesOnlyThen() {
        CHECK.says("SEES .. at first and behind each HOUR; also those that are SWAPPED to them: by no other ACT");
        HalfFair f = Check.open("stalls 3 0;half 0 1 0 9;half 0 2 0 1;half 1 3 0 1;half 0 1 1 1;buyer 30 0;buyer 30 1");
        f.buy(0, 0);
        f.buy(0, 1);
        f.buy(1, 2);
        f.go(0, 1);
        due("HALF 0 comes to where BUYER 1 is", f.giveUp(0, 0), 24);
        due("GIVEN UP beside them", f.buyer(1, 3), 4);
        due("SHOUT another SHAPE", f.shout(1, 50), 0);
        due("SHOUTED another SHAPE", f.buyer(1, 3), 4);
        CHECK.due("SWAP another one", f.swap(0, 1, 1, 2), true);
        due("what is SWAPPED, not what is at the STALL", f.buyer(1, 3), 6);
        due("what is SWAPPED, the other way", f.buyer(0, 3), 15);
        due("BUY what they did not SEE", f.buy(1, 0), 19);
        due("BOUGHT, but not SEEN", f.buyer(1, 3), 6);
        due("GIVE UP what they did not SEE", f.giveUp(1, 0), 23);
        due("GIVEN UP, but not SEEN", f.buyer(1, 3), 6);
        due("0 and 3 are unseen, one of which FITS 3", f.chance(1, 3, 1), 2);
        f.image(0);
        f.back(0);
        due("gone back to, not SEEN", f.buyer(1, 3), 6);
        f.buy(0, 0);
        f.undo();
        due("UNDONE, not SEEN", f.buyer(1, 3), 6);
        f.go(0, 0);
        due("behind the HOUR", f.buyer(1, 3), 7);
        HalfFair g = Check.open("stalls 3 0;half 1 1 0 9;half 2 1 1 1;buyer 30 0;buyer 30 1");
        g.buy(1, 0);
        g.go(1, -1);
        g.giveUp(1, 0);
        Check.rule(g, "buy 1;go 0 - 1");
        due("BY A RULE", g.run(0, 1), 2);
        due("BOUGHT BY A RULE", g.buyer(0, 2), 1);
        due("BOUGHT, not SEEN; behind the HOUR what is there", g.buyer(0, 3), 2);
    }

    private static void sawByClub() {
        CHECK.says("SAW, below: by them, or by one of their club");
        String text = "stalls 4 0;half 0 1 0 1;half 1 1 1 1;half 2 1 1 1;buyer 9 0;buyer 9 1;buyer 9 2";
        HalfFair f = Check.open(text + ";club 2 0");
        int[] saw = {5, 2, 5};
        for (int b = 0; b < 3; b++) {
            due("SAW of " + b, f.buyer(b, 3), saw[b]);
        }
        due("unseen by 0: 1, which fits 0", f.chance(0, 0, 0), 1);
        due("unseen by 0", f.chance(0, 0, 1), 1);
        HalfFair alone = Check.open(text);
        due("without a club: 1 and 2", alone.chance(0, 0, 0), 1);
        due("without a club", alone.chance(0, 1, 1), 1);
        due("without a club", alone.buyer(0, 3), 1);
        CHECK.says("how many more HALVES they themselves SAW then");
        due("what the club SAW counts, too", f.shout(1, 1), 2);
        HalfFair near = Check.open(text.replace("buyer 9 1", "buyer 9 3") + ";club 1 0;club 1 2");
        due("SAW by the club already", near.buyer(1, 3), 5);
        due("not by themselves", near.shout(1, 1), 2);
        due("nothing new the second time", near.shout(1, 1), 0);
    }

    private static void going() {
        CHECK.says("GO (-1, 1) or STAY (0): HOUR; NONE, and nothing happens, without these");
        HalfFair f = Check.open(STILL);
        f.buy(0, 0);
        String before = Check.state(f);
        for (int way : new int[] {-2, 2, 3, Integer.MIN_VALUE, Integer.MAX_VALUE}) {
            due("way " + way, f.go(0, way), -1);
        }
        due("no BUYER 4", f.go(4, 0), -1);
        due("no BUYER -1", f.go(-1, 0), -1);
        CHECK.stays("refused", f, before);
        due("the last BUYER", f.go(3, -1), 1);
        due("STAY", f.go(3, 0), 2);
        due("GO", f.go(3, 1), 3);
        due("SPOT", f.buyer(3, 1), 3);
    }

    private static void goingRound() {
        CHECK.says("a BUYER GOES to the SPOT beside (1 onwards, -1 backwards), or STAYS (0); SPOTS are .. in a ring");
        for (int stalls = 2; stalls <= 8; stalls++) {
            HalfFair f = Check.open("stalls " + stalls + " 3;buyer 0 " + (stalls - 1) + ";buyer 0 0");
            f.go(0, 1);
            due("onwards from the last", f.buyer(0, 1), 0);
            f.go(0, -1);
            due("backwards from the first", f.buyer(0, 1), stalls - 1);
            f.go(0, 0);
            due("STAYS", f.buyer(0, 1), stalls - 1);
            f.go(0, -1);
            due("backwards", f.buyer(0, 1), stalls - 2);
            f.go(1, 1);
            due("onwards", f.buyer(1, 1), 1);
            due("the other one is where they were", f.buyer(0, 1), stalls - 2);
            due("an HOUR each", f.count(4), 5);
        }
    }

    private static void lastHour() {
        CHECK.says("all STALLS move; 99 at most; NONE, and nothing happens, .. at HOUR 99");
        HalfFair f = Check.open(STILL);
        Check.rule(f, "go 0");
        f.run(0, 48);
        f.run(0, 48);
        f.run(0, 1);
        due("HOUR 98", f.go(0, 1), 98);
        due("HOUR 99", f.go(0, 1), 99);
        String before = Check.state(f);
        for (int way = -1; way <= 1; way++) {
            due("at HOUR 99", f.go(0, way), -1);
            due("at HOUR 99", f.go(3, way), -1);
        }
        CHECK.stays("at HOUR 99", f, before);
        due("no HOUR goes by: BUY", f.buy(1, 0), 2);
        due("no HOUR goes by: SHOUT", f.shout(1, 1), 0);
        due("UNDONE", f.undo(), 3);
        f.undo();
        f.undo();
        due("HOUR 98 again", f.count(4), 98);
        due("HOUR 99 again", f.go(0, 0), 99);
    }

    private static void buying() {
        CHECK.says("BUY: PURSE then; NONE, and nothing happens, without these (not at that STALL, or PURSE is less)");
        HalfFair f = Check.open(STILL);
        String before = Check.state(f);
        due("not at that STALL", f.buy(0, 3), -1);
        due("not at that STALL", f.buy(3, 0), -1);
        due("PURSE is less, not there either", f.buy(3, 3), -1);
        due("no HALF 4", f.buy(0, 4), -1);
        due("no HALF -1", f.buy(0, -1), -1);
        due("no HALF 32", f.buy(0, 32), -1);
        due("no BUYER 4", f.buy(4, 0), -1);
        due("no BUYER -1", f.buy(-1, 0), -1);
        CHECK.stays("refused", f, before);
        due("BUY", f.buy(0, 0), 5);
        due("it is theirs", f.half(0, 3), 100);
        due("one less at STALLS", f.count(6), 3);
        before = Check.state(f);
        due("theirs already", f.buy(0, 0), -1);
        due("another one's", f.buy(1, 0), -1);
        CHECK.stays("refused", f, before);
    }

    private static void buyingPurse() {
        CHECK.says("BUY a HALF .. (its price now); NONE .. PURSE is less");
        HalfFair f = Check.open("stalls 2 0;half 0 1 0 9;half 0 1 1 9;half 1 0 0 1;buyer 9 0;buyer 8 0;buyer 0 1");
        String before = Check.state(f);
        due("8 is less than 9", f.buy(1, 0), -1);
        due("0 is less than 1", f.buy(2, 2), -1);
        CHECK.stays("refused", f, before);
        due("9 is enough for 9", f.buy(0, 0), 0);
        due("0 is less than 9", f.buy(0, 1), -1);
        HalfFair rich = Check.open("stalls 2 0;half 0 1 0 99;buyer 999 0;buyer 98 0;buyer 99 0");
        due("98", rich.buy(1, 0), -1);
        due("999", rich.buy(0, 0), 900);
        rich.undo();
        due("99", rich.buy(2, 0), 0);
    }

    private static void shouting() {
        CHECK.says("SHOUT (a SHAPE 0 to 99): how many more HALVES they themselves SAW then; NONE, and nothing happens,"
            + " without these");
        HalfFair f = Check.open("stalls 3 0;half 1 0 0 1;half 1 99 0 1;half 2 99 1 1;buyer 5 0");
        String before = Check.state(f);
        due("SHAPE -1", f.shout(0, -1), -1);
        due("SHAPE 100", f.shout(0, 100), -1);
        due("no BUYER 1", f.shout(1, 0), -1);
        due("no BUYER -1", f.shout(-1, 0), -1);
        CHECK.stays("refused", f, before);
        due("SHAPE 0", f.shout(0, 0), 1);
        due("SHAPE 99", f.shout(0, 99), 2);
        due("PURSE", f.buyer(0, 0), 3);
        due("none more", f.shout(0, 99), 0);
        due("paid for none, too", f.buyer(0, 0), 2);
        f.buy(0, 0);
        HalfFair owned = Check.open("stalls 2 0;half 1 7 0 1;buyer 5 0;buyer 5 1");
        owned.buy(1, 0);
        due("a BUYER's is at no STALL", owned.shout(0, 7), 0);
    }

    private static void shoutingPurse() {
        CHECK.says("SHOUT a SHAPE for 1 of PURSE; NONE .. without .. 1 of PURSE");
        HalfFair f = Check.open("stalls 2 0;half 1 7 0 1;buyer 1 0;buyer 0 0;buyer 2 0");
        String before = Check.state(f);
        due("PURSE 0", f.shout(1, 7), -1);
        CHECK.stays("refused", f, before);
        due("PURSE 1", f.shout(0, 7), 1);
        due("none left", f.buyer(0, 0), 0);
        due("PURSE 0 then", f.shout(0, 7), -1);
        due("PURSE 2", f.shout(2, 7), 1);
        due("one left", f.buyer(2, 0), 1);
    }

    private static void shoutingNear() {
        CHECK.says("they SEE all HALVES .. of which SHAPE is apart from it by near at most");
        HalfFair f = Check.open("stalls 2 0;half 1 40 0 1;half 1 42 1 1;half 1 43 0 1;half 1 38 0 1;half 1 37 0 1;"
            + "half 1 0 1 1;forged 5;buyer 9 0;near 2");
        due("none from 68 to 72", f.shout(0, 70), 0);
        due("38 to 42", f.shout(0, 40), 3);
        due("which", f.buyer(0, 3), 1 | 2 | 8);
        due("FORGED ones by their SHAPE", f.shout(0, 3), 0);
        due("FORGED ones by their SHAPE", f.shout(0, 2), 1);
    }

    private static void noHour() {
        CHECK.says("By others no HOUR goes by");
        HalfFair f = Check.open(STILL);
        f.buy(0, 0);
        f.buy(1, 1);
        f.shout(0, 30);
        f.swap(0, 0, 1, 1);
        f.giveUp(0, 1);
        due("HOUR", f.count(4), 0);
        due("ACTS", f.count(8), 5);
        due("till dusk", f.count(5), 3);
    }

    private static void swapping() {
        CHECK.says("SWAP: true; false, and nothing happens, without these (each theirs, unlike BUYERS at one SPOT)");
        HalfFair f = Check.open(STILL);
        f.buy(0, 0);
        f.buy(0, 2);
        f.buy(1, 1);
        f.buy(2, 3);
        String before = Check.state(f);
        CHECK.due("not at one SPOT", f.swap(0, 0, 2, 3), false);
        CHECK.due("the first not theirs", f.swap(0, 1, 1, 1), false);
        CHECK.due("the second not theirs", f.swap(0, 0, 1, 0), false);
        CHECK.due("each the other one's", f.swap(0, 1, 1, 0), false);
        CHECK.due("one BUYER, two HALVES", f.swap(0, 0, 0, 2), false);
        CHECK.due("one BUYER, one HALF", f.swap(0, 0, 0, 0), false);
        CHECK.due("no HALF", f.swap(0, 4, 1, 1), false);
        CHECK.due("no HALF", f.swap(0, 0, 1, -1), false);
        CHECK.due("no HALF 32", f.swap(0, 32, 1, 1), false);
        CHECK.due("no HALF 33", f.swap(0, 0, 1, 33), false);
        CHECK.due("no BUYER", f.swap(4, 0, 1, 1), false);
        CHECK.due("no BUYER", f.swap(0, 0, -1, 1), false);
        CHECK.stays("refused", f, before);
        CHECK.due("SWAP", f.swap(1, 1, 0, 2), true);
        due("theirs", f.buyer(0, 2), 3);
        due("theirs", f.buyer(1, 2), 4);
        due("nobody pays", f.buyer(0, 0), 4);
        due("nobody pays", f.buyer(1, 0), 4);
        due("an ACT", f.count(8), 5);
    }

    private static void givingUp() {
        CHECK.says("GIVE UP: one they have goes to the STALL where they are, for half its price now, downwards");
        HalfFair f = Check.open(STILL);
        f.buy(0, 0);
        f.buy(1, 1);
        f.buy(0, 2);
        due("half of 4", f.giveUp(0, 0), 6);
        due("half of 5", f.giveUp(1, 1), 6);
        due("half of 1", f.giveUp(0, 2), 6);
        due("at STALL 0", f.half(2, 3), 0);
        f.buy(0, 0);
        f.go(0, -1);
        due("half of 4", f.giveUp(0, 0), 4);
        due("where they are", f.half(0, 3), 3);
        f.undo();
        f.go(0, 0);
        f.go(0, 0);
        due("half of dusk's 7", f.giveUp(0, 0), 5);
        CHECK.says("NONE, and nothing happens, if it is not theirs");
        String before = Check.state(f);
        due("at a STALL", f.giveUp(0, 0), -1);
        due("at a STALL", f.giveUp(0, 3), -1);
        due("no HALF", f.giveUp(0, 4), -1);
        due("no HALF", f.giveUp(0, -1), -1);
        due("no BUYER", f.giveUp(4, 0), -1);
        due("no BUYER", f.giveUp(-1, 0), -1);
        CHECK.stays("refused", f, before);
        f = Check.open(STILL);
        f.buy(0, 0);
        before = Check.state(f);
        due("no HALF 32", f.giveUp(0, 32), -1);
        due("another one's", f.giveUp(1, 0), -1);
        CHECK.stays("refused", f, before);
        HalfFair rich = Check.open("stalls 2 0;half 0 0 0 1;buyer 999 0;dusk 1 99");
        rich.buy(0, 0);
        rich.go(0, 0);
        due("above 999, too", rich.giveUp(0, 0), 998 + 49);
    }

    private static void undoing() {
        CHECK.says("The last ACT is UNDONE: how many more can be");
        HalfFair f = Check.open(STILL);
        Check.rule(f, "go 0");
        f.image(3);
        String[] ahead = new String[7];
        for (int act = 0; act < 6; act++) {
            ahead[act] = Check.state(f);
            act(f, act);
            due("an ACT more", f.count(8), act + 1);
        }
        for (int act = 5; act >= 0; act--) {
            due("undo", f.undo(), act);
            CHECK.stays("undo of " + act, f, ahead[act]);
        }
        due("none can", f.undo(), -1);
        CHECK.stays("none can", f, ahead[0]);
    }

    private static void act(HalfFair f, int kind) {
        switch (kind) {
            case 0: due("BUY", f.buy(0, 0), 5); break;
            case 1: due("BUY", f.buy(1, 1), 4); break;
            case 2: CHECK.due("SWAP", f.swap(0, 0, 1, 1), true); break;
            case 3: due("SHOUT", f.shout(0, 30), 1); break;
            case 4: due("GO", f.go(2, -1), 1); break;
            default: due("GIVE UP", f.giveUp(1, 0), 6); break;
        }
    }

    private static void undoneTwenty() {
        CHECK.says("The last 20 ACTS can be UNDONE, the last first");
        for (int acts = 19; acts <= 22; acts++) {
            HalfFair f = Check.open("stalls 5 0;buyer 0 0");
            for (int i = 1; i <= acts; i++) {
                f.go(0, 1);
                due("that can be", f.count(8), Math.min(i, 20));
            }
            for (int i = Math.min(acts, 20) - 1; i >= 0; i--) {
                due("undo", f.undo(), i);
            }
            due("none can", f.undo(), -1);
            due("HOUR", f.count(4), Math.max(acts - 20, 0));
            due("SPOT", f.buyer(0, 1), Math.max(acts - 20, 0) % 5);
        }
        HalfFair f = Check.open("stalls 5 0;buyer 0 0");
        for (int i = 0; i < 30; i++) {
            f.go(0, 1);
        }
        for (int i = 0; i < 5; i++) {
            f.undo();
        }
        for (int i = 0; i < 7; i++) {
            f.go(0, 0);
        }
        due("20 once more", f.count(8), 20);
        for (int i = 0; i < 20; i++) {
            f.undo();
        }
        due("HOUR 32 - 20", f.count(4), 12);
        due("SPOT", f.buyer(0, 1), 2);
    }

    private static void undoneNone() {
        CHECK.says("NONE, and nothing happens: none can");
        HalfFair f = Check.open(STILL);
        Check.rule(f, "buy 1");
        f.trial(0, 1, true);
        f.seed(4);
        f.image(1);
        f.worth(3);
        f.walk(0, 0);
        f.fairs(0, 1, 50, 0);
        f.bring(0, 3, 0);
        due("what is asked or told is no ACT", f.count(8), 0);
        String before = Check.state(f);
        due("none can", f.undo(), -1);
        CHECK.stays("none can", f, before);
        CHECK.says("(These can't be UNDONE: nothing that was done ahead of them can, either.)");
        f.go(0, 0);
        f.run(0, 1);
        before = Check.state(f);
        due("none can", f.undo(), -1);
        CHECK.stays("none can", f, before);
        f.go(0, 0);
        due("what is done behind them can", f.undo(), 0);
        due("HOUR", f.count(4), 2);
        f.go(0, 0);
        due("a refused run", f.run(0, 0), -1);
        due("takes nothing away", f.undo(), 0);
    }

    private static void allThereCanBe() {
        CHECK.says("STALLS 2 to 8, HALVES 0 to 11, BUYERS 0 to 3: with all of them");
        HalfFair f = Check.open("stalls 8 7" + ";half 7 9 0 1".repeat(6) + ";half 0 9 1 1".repeat(6) + ";forged 11;forged 0"
            + ";buyer 99 7;buyer 99 7;buyer 99 0;buyer 99 3;club 3 2;dusk 5 1;hear 7");
        due("HALF 11", f.half(11, 3), 0);
        due("fit", f.fit(11, 10), 2);
        due("the last SEES", f.shout(3, 9), 12);
        due("SAW", f.buyer(3, 3), 4095);
        due("BUY", f.buy(2, 11), 98);
        due("BUY", f.buy(0, 0), 98);
        due("BUY", f.buy(1, 5), 98);
        CHECK.due("SWAP", f.swap(1, 5, 0, 0), true);
        due("BUYER 2", f.half(11, 3), 102);
        due("STALLS move", f.go(3, -1), 1);
        due("SPOT of STALL 7", f.spot(7, 0), 6);
        due("GIVE UP", f.giveUp(2, 11), 98);
        // at HOUR 1 STALL 1 is at SPOT 0
        due("where", f.half(11, 3), 1);
        Check.rule(f, "buy 1;go 0-1");
        due("run", f.run(0, 4), 5);
        // BUYER 2 went along with STALL 1, BUYERS 0 and 1 with STALL 0, BUYER 3 with STALL 3
        due("bought", f.buyer(2, 2), 1 << 11);
        due("bought", f.buyer(0, 2), 32 | 31 << 6);
        due("the second finds none", f.buyer(1, 2), 1);
        due("bought none", f.buyer(3, 2), 0);
        due("HALVES at STALLS", f.count(6), 4);
    }
}
