/** Promise by promise: ordinary calls, edges and wrong calls, with answers worked out by hand from DOC.md. */
public final class PromisesTest {
    /** HALVES: 0 (10, left), 1 (10, right), 2 (12, right), 3 (30, left), 4 FORGED; BUYERS 0 and 1 of one club. */
    private static final String FAIR = "stalls 4 1;half 0 10 0 4;half 1 10 1 6;half 2 12 1 3;half 3 30 0 2;"
        + "half 1 50 0 8;forged 4;buyer 20 0;buyer 9 2;club 0 1;near 2;dusk 3 1;hear 1";
    /** Four STALLS that stand still, all HALVES but one at STALL 0. */
    private static final String STILL = "stalls 4 0;half 0 10 0 4;half 0 10 1 6;half 0 20 0 7;half 2 20 1 9;"
        + "buyer 30 0;buyer 30 0;buyer 0 2;dusk 3 5";
    private static final Check CHECK = new Check();

    public static void main(String[] args) {
        newObject();
        feedAndEnd();
        fairs();
        rules();
        halves();
        fits();
        buyers();
        spots();
        goings();
        buying();
        shouting();
        swapping();
        givingUp();
        undoing();
        undoneBounds();
        running();
        runningEdges();
        worths();
        walks();
        walkEdges();
        chances();
        yielding();
        crying();
        bringing();
        trials();
        forgersAndHonest();
        seeds();
        fairsDrawn();
        counts();
        images();
        CHECK.finish();
    }

    private static void due(String call, long got, long want) {
        CHECK.due(call, got, want);
    }

    private static void newObject() {
        HalfFair f = new HalfFair();
        due("P1 NONE", HalfFair.NONE, -1);
        int[] want = {0, 0, 0, 0, 0, -1, 0, 0, 0, 0, 0, -1};
        for (int what = 0; what < want.length; what++) {
            due("P1 count " + what, f.count(what), want[what]);
        }
        due("P1 half", f.half(0, 0), -1);
        due("P1 fit", f.fit(0, 1), -1);
        due("P1 buyer", f.buyer(0, 0), -1);
        due("P1 spot", f.spot(0, 0), -1);
        due("P1 go", f.go(0, 0), -1);
        due("P1 buy", f.buy(0, 0), -1);
        due("P1 shout", f.shout(0, 0), -1);
        CHECK.due("P1 swap", f.swap(0, 0, 1, 1), false);
        due("P1 giveUp", f.giveUp(0, 0), -1);
        due("P1 undo", f.undo(), -1);
        due("P1 run", f.run(0, 1), -1);
        due("P1 worth of no HALVES", f.worth(0), -1);
        due("P1 worth", f.worth(1), -1);
        due("P1 with", f.with(0, 0), -2);
        due("P1 walk", f.walk(0, 0), -3);
        due("P1 chance", f.chance(0, 0, 0), -1);
        due("P1 yields", f.yields(0, 0, 1, 1, 0), -1);
        due("P1 cry", f.cry(0, 0), -1);
        due("P1 bring", f.bring(0, 0, 0), -1);
        due("P1 trial", f.trial(0, 1, true), -2);
        due("P1 forgers", f.forgers(0), -1);
        due("P1 fairs", f.fairs(0, 1, 0, 0), -1);
        due("P1 back", f.back(0), -1);
    }

    private static void feedAndEnd() {
        HalfFair f = new HalfFair();
        for (int i = 1; i <= 20; i++) {
            due("P2 feed", f.feed(i, -i, 0, Integer.MIN_VALUE, Integer.MAX_VALUE), 20 * i);
        }
        due("P2 feed of a full TAPE", f.feed(0, 0, 0, 0, 0), -1);
        due("P2 count", f.count(10), 400);
        due("P3 end above", f.end(401), -1);
        due("P3 end below 0", f.end(-1), -1);
        due("P3 count", f.count(10), 400);
        due("P3 end at all", f.end(400), 400);
        due("P3 end", f.end(381), 381);
        due("P2 feed over 400", f.feed(0, 0, 0, 0, 0), -1);
        due("P3 end not so many", f.end(382), -1);
        due("P3 end", f.end(380), 380);
        due("P2 feed", f.feed(0, 0, 0, 0, 0), 400);
        due("P3 end", f.end(0), 0);
        // "stal" "ls 2" " 0;h" "alf " "1 9 ": highest byte first, and more behind it
        due("P2 feed", f.feed(0x7374616c, 0x6c732032, 0x20303b68, 0x616c6620, 0x31203920), 20);
        due("P2 feed", f.feed(0x30203700, 0, 0, 0, 0), 40);
        due("P3 end", f.end(23), 23);
        due("P4 fair", f.fair(), 1);
        due("P6 price as fed", f.half(0, 2), 7);
    }

    private static void fairs() {
        HalfFair f = Check.open(FAIR);
        due("P4 TAPE empty", f.count(10), 0);
        due("P4 HALVES", f.count(1), 5);
        f.seed(77);
        f.go(0, 0);
        f.trial(0, 1, true);
        due("P4 fault", Check.fair(f, "stalls 2 8"), Check.fault(9, 1));
        due("P4 all stays: TAPE", f.count(10), 10);
        due("P4 all stays: HALVES", f.count(1), 5);
        due("P4 all stays: HOUR", f.count(4), 1);
        due("P4 all stays: TRIALS", f.count(7), 1);
        due("P4 all stays: ACTS", f.count(8), 1);
        due("P4 in place", Check.fair(f, " stalls2 0 ; buyer 5 1 "), 0);
        due("P4 HOUR 0", f.count(4), 0);
        due("P4 no TRIALS", f.count(7), 0);
        due("P4 nothing to be UNDONE", f.count(8), 0);
        due("P4 undo", f.undo(), -1);
        due("P4 x stays", f.count(9), 77);
        due("P4 STALLS", f.count(0), 2);
        due("P4 BUYERS", f.count(2), 1);
        due("P4 dusk without", f.count(5), 12);
        due("P4 near, hear without", Check.fair(f, "stalls 8 0;half 1 10 0 9;half 1 11 1 9;half 2 10 1 9;buyer 9 0"), 3);
        due("P4 near 0", f.fit(0, 1), 0);
        due("P4 hear 1, near 0", f.shout(0, 10), 1);
        f.end(0);
    }

    private static void rules() {
        HalfFair f = new HalfFair();
        due("P5 fault", Check.rule(f, "buy"), Check.fault(3, 0));
        due("P5 none comes", f.count(3), 0);
        due("P5 TAPE empty behind a FAULT", f.count(10), 0);
        due("P5 a FAULT at the end of the empty TAPE", f.rule(), Check.fault(0, 0));
        for (int i = 0; i < 6; i++) {
            due("P5 rule", Check.rule(f, "buy " + i), i);
            due("P5 TAPE empty", f.count(10), 0);
        }
        due("P5 a seventh", Check.rule(f, "buy 7"), -1);
        due("P5 nothing happens", f.count(10), 5);
        due("P5 a seventh with a FAULT", Check.rule(f, "buy"), -1);
        due("P5 nothing happens", f.count(10), 3);
        due("P5 RULES stay in a new FAIR", Check.fair(f, FAIR), 5);
        due("P5 RULES", f.count(3), 6);
    }

    private static void halves() {
        HalfFair f = Check.open(FAIR);
        due("P6 SHAPE", f.half(2, 0), 12);
        due("P6 SIDE", f.half(2, 1), 1);
        due("P6 price", f.half(2, 2), 3);
        due("P6 STALL", f.half(2, 3), 2);
        due("P6 not FORGED", f.half(2, 4), 0);
        due("P6 FORGED", f.half(4, 4), 1);
        due("P6 what 5", f.half(2, 5), -1);
        due("P6 what -1", f.half(2, -1), -1);
        due("P6 half 5", f.half(5, 0), -1);
        due("P6 half -1", f.half(-1, 0), -1);
        f.buy(1, 2);
        due("P6 BUYER", f.half(2, 3), 101);
        f.go(0, 0);
        f.go(0, 0);
        due("P6 price ahead of dusk", f.half(0, 2), 4);
        f.go(0, 0);
        due("P6 price at dusk", f.half(0, 2), 1);
        HalfFair plain = Check.open("stalls 2 0;half 0 1 0 9;buyer 0 0");
        for (int hour = 1; hour <= 12; hour++) {
            plain.go(0, 0);
            due("P6 dusk without: 12 and 5", plain.half(0, 2), hour < 12 ? 9 : 5);
        }
    }

    private static void fits() {
        HalfFair f = Check.open(FAIR);
        due("P7 FIT", f.fit(0, 1), 2);
        due("P7 FIT the other way", f.fit(1, 0), 2);
        due("P7 NEARLY", f.fit(0, 2), 1);
        due("P7 SIDES alike", f.fit(1, 2), 0);
        due("P7 SHAPES apart", f.fit(1, 3), 0);
        due("P7 FORGED", f.fit(4, 3), 2);
        due("P7 FORGED", f.fit(1, 4), 2);
        due("P7 alike", f.fit(2, 2), -1);
        due("P7 FORGED alike", f.fit(4, 4), -1);
        due("P7 none", f.fit(0, 5), -1);
        due("P7 none", f.fit(-1, 0), -1);
    }

    private static void buyers() {
        HalfFair f = Check.open(FAIR);
        due("P8 PURSE", f.buyer(0, 0), 20);
        due("P8 SPOT", f.buyer(1, 1), 2);
        due("P8 has", f.buyer(0, 2), 0);
        due("P8 SAW by the club", f.buyer(0, 3), 5);
        due("P8 club", f.buyer(1, 4), 3);
        due("P8 WORTH", f.buyer(1, 5), 0);
        due("P8 what 6", f.buyer(0, 6), -1);
        due("P8 what -1", f.buyer(0, -1), -1);
        due("P8 buyer 2", f.buyer(2, 0), -1);
        due("P8 buyer -1", f.buyer(-1, 0), -1);
        f.buy(0, 0);
        due("P8 has", f.buyer(0, 2), 1);
        due("P8 WORTH", f.buyer(0, 5), 9);
        HalfFair clubs = Check.open("stalls 2 0;buyer 1 0;buyer 1 0;buyer 1 0;buyer 1 0;club 0 1;club 2 3;club 3 1");
        due("P8 clubs joined", clubs.buyer(0, 4), 15);
        HalfFair alone = Check.open("stalls 2 0;buyer 1 0;buyer 1 0;buyer 1 0;club 2 0");
        due("P8 a club of one", alone.buyer(1, 4), 2);
        due("P8 a club of two", alone.buyer(0, 4), 5);
    }

    private static void spots() {
        HalfFair f = Check.open("stalls 5 3;buyer 1 0");
        due("P9 now", f.spot(4, 0), 4);
        due("P9 later", f.spot(4, 2), 0);
        due("P9 99", f.spot(1, 99), 3);
        due("P9 100", f.spot(1, 100), -1);
        due("P9 -1", f.spot(1, -1), -1);
        due("P9 no STALL", f.spot(5, 0), -1);
        due("P9 no STALL", f.spot(-1, 0), -1);
        f.go(0, 0);
        due("P9 from now", f.spot(4, 0), 2);
        due("P9 from now", f.spot(1, 99), 1);
    }

    private static void goings() {
        HalfFair f = Check.open(FAIR);
        due("P10 way 2", f.go(0, 2), -1);
        due("P10 way -2", f.go(0, -2), -1);
        due("P10 buyer 2", f.go(2, 0), -1);
        due("P10 buyer -1", f.go(-1, 0), -1);
        due("P10 HOUR stays", f.count(4), 0);
        due("P10 GO", f.go(0, -1), 1);
        due("P10 backwards round the ring", f.buyer(0, 1), 3);
        due("P10 the other stays", f.buyer(1, 1), 2);
        // STALL 2 stands at SPOT 3 then, STALL 1 at SPOT 2: the one who stays sees, too
        due("P10 SEES", f.buyer(0, 3), 1 | 2 | 4 | 16);
        due("P10 onwards round the ring", f.go(0, 1), 2);
        due("P10 SPOT", f.buyer(0, 1), 0);
        for (int hour = 3; hour <= 99; hour++) {
            due("P10 HOUR", f.go(1, 0), hour);
        }
        due("P10 at HOUR 99", f.go(0, 0), -1);
        due("P10 HOUR", f.count(4), 99);
    }

    private static void buying() {
        HalfFair f = Check.open(FAIR);
        due("P11 not at that STALL", f.buy(0, 1), -1);
        due("P11 half 5", f.buy(0, 5), -1);
        due("P11 half -1", f.buy(0, -1), -1);
        due("P11 buyer 2", f.buy(2, 0), -1);
        due("P11 BUY", f.buy(0, 0), 16);
        due("P11 it is theirs", f.half(0, 3), 100);
        due("P11 HOUR stays", f.count(4), 0);
        due("P11 once only", f.buy(0, 0), -1);
        f.go(1, 0);
        due("P11 at the STALL now", f.buy(1, 4), 1);
        due("P11 PURSE is less", f.buy(1, 1), -1);
        f.go(1, 1);
        f.go(1, -1);
        f.go(1, -1);
        // HOUR 4: STALL 1 stands at SPOT 1 again
        due("P11 price from dusk on", f.buy(1, 1), 0);
        due("P11 PURSE", f.buyer(1, 0), 0);
    }

    private static void shouting() {
        HalfFair f = Check.open(FAIR);
        due("P12 SHAPE 100", f.shout(0, 100), -1);
        due("P12 SHAPE -1", f.shout(0, -1), -1);
        due("P12 buyer 2", f.shout(2, 10), -1);
        due("P12 nothing happens", f.buyer(0, 0), 20);
        // STALLS 3, 0 and 1 are in hearing; of HALVES with SHAPES 9 to 13 they saw 0 already, 2 is too far
        due("P12 SHOUT", f.shout(0, 11), 1);
        due("P12 PURSE", f.buyer(0, 0), 19);
        due("P12 SAW", f.buyer(0, 3), 7);
        due("P12 none more", f.shout(0, 11), 0);
        due("P12 round the ring", f.shout(0, 32), 1);
        due("P12 they themselves, not the club", f.shout(1, 10), 1);
        due("P12 FORGED by its SHAPE", f.shout(0, 49), 1);
        due("P12 HOUR stays", f.count(4), 0);
        due("P12 SHAPE 99", f.shout(0, 99), 0);
        HalfFair poor = Check.open("stalls 2 0;half 1 5 0 1;buyer 1 0;hear 0");
        due("P12 hear 0", poor.shout(0, 5), 0);
        due("P12 without PURSE", poor.shout(0, 5), -1);
    }

    private static void swapping() {
        HalfFair f = Check.open(STILL);
        f.buy(0, 0);
        f.buy(1, 1);
        CHECK.due("P13 not theirs", f.swap(0, 1, 1, 0), false);
        CHECK.due("P13 at a STALL", f.swap(0, 0, 1, 2), false);
        CHECK.due("P13 one BUYER", f.swap(0, 0, 0, 0), false);
        CHECK.due("P13 no BUYER", f.swap(0, 0, 3, 1), false);
        CHECK.due("P13 no HALF", f.swap(0, 0, 1, 12), false);
        due("P13 nothing happens", f.count(8), 2);
        CHECK.due("P13 SWAP", f.swap(0, 0, 1, 1), true);
        due("P13 theirs", f.half(0, 3), 101);
        due("P13 theirs", f.half(1, 3), 100);
        due("P13 HOUR stays", f.count(4), 0);
        f.go(1, 1);
        CHECK.due("P13 not at one SPOT", f.swap(0, 1, 1, 0), false);
        HalfFair sees = Check.open("stalls 2 0;half 0 1 0 1;half 1 1 1 1;buyer 9 0;buyer 9 1");
        sees.buy(0, 0);
        sees.buy(1, 1);
        sees.go(1, 1);
        due("P13 not SEEN ahead of it", sees.buyer(0, 3), 1);
        CHECK.due("P13 SWAP", sees.swap(1, 1, 0, 0), true);
        due("P13 SEEN by it", sees.buyer(0, 3), 3);
        due("P13 SEEN by it", sees.buyer(1, 3), 3);
    }

    private static void givingUp() {
        HalfFair f = Check.open(FAIR);
        f.go(0, 0);
        f.go(1, -1);
        // HOUR 2: at SPOT 0 stands STALL 2
        due("P14 BUY", f.buy(0, 2), 17);
        due("P14 of another", f.giveUp(1, 2), -1);
        due("P14 at a STALL", f.giveUp(0, 0), -1);
        due("P14 no HALF", f.giveUp(0, 5), -1);
        due("P14 no BUYER", f.giveUp(2, 2), -1);
        due("P14 half of 3, downwards", f.giveUp(0, 2), 18);
        due("P14 at the STALL where they are", f.half(2, 3), 2);
        f.buy(0, 2);
        f.go(0, 0);
        due("P14 half of dusk's 1", f.giveUp(0, 2), 15);
        due("P14 at another STALL then", f.half(2, 3), 1);
        HalfFair seen = Check.open("stalls 2 0;half 0 1 0 9;buyer 9 0;buyer 9 1");
        seen.buy(0, 0);
        seen.go(0, 1);
        seen.giveUp(0, 0);
        due("P14 not SEEN till an HOUR has gone by", seen.buyer(1, 3), 0);
        seen.go(0, 0);
        due("P14 SEEN behind it", seen.buyer(1, 3), 1);
    }

    private static void undoing() {
        HalfFair f = Check.open(STILL);
        due("P15 none", f.undo(), -1);
        f.buy(0, 0);
        f.buy(1, 1);
        f.swap(0, 0, 1, 1);
        f.giveUp(0, 1);
        f.shout(0, 10);
        f.go(0, 1);
        f.go(0, 1);
        due("P15 that can be", f.count(8), 7);
        f.seed(5);
        f.trial(0, 1, true);
        due("P15 SEEN", f.buyer(0, 3), 15);
        due("P15 GO", f.undo(), 6);
        due("P15 HOUR", f.count(4), 1);
        due("P15 SPOT", f.buyer(0, 1), 1);
        due("P15 SEEN", f.buyer(0, 3), 7);
        due("P15 GO", f.undo(), 5);
        due("P15 SHOUT", f.undo(), 4);
        due("P15 PURSE", f.buyer(0, 0), 29);
        due("P15 GIVE UP", f.undo(), 3);
        due("P15 where", f.half(1, 3), 100);
        due("P15 PURSE", f.buyer(0, 0), 26);
        due("P15 SWAP", f.undo(), 2);
        due("P15 where", f.half(1, 3), 101);
        due("P15 BUY", f.undo(), 1);
        due("P15 where", f.half(1, 3), 0);
        due("P15 PURSE", f.buyer(1, 0), 30);
        due("P15 BUY", f.undo(), 0);
        due("P15 none", f.undo(), -1);
        due("P15 x stays", f.count(9), 5);
        due("P15 TRIALS stay", f.count(7), 1);
    }

    private static void undoneBounds() {
        HalfFair f = Check.open(STILL);
        for (int i = 1; i <= 23; i++) {
            f.go(0, 1);
            due("P15 20 at most", f.count(8), Math.min(i, 20));
        }
        f.go(0, 3);
        f.buy(0, 3);
        due("P15 what did not happen can't be", f.count(8), 20);
        for (int i = 19; i >= 0; i--) {
            due("P15 the last first", f.undo(), i);
        }
        due("P15 HOUR", f.count(4), 3);
        due("P15 no more", f.undo(), -1);
        f.go(0, 0);
        due("P15 again", f.undo(), 0);
        f.go(0, 0);
        Check.rule(f, "go 0");
        f.run(0, 1);
        due("P15 nothing behind a RULE", f.undo(), -1);
        f.go(0, 0);
        f.image(0);
        due("P15 not by an IMAGE", f.count(8), 1);
        f.back(0);
        due("P15 nothing behind an IMAGE", f.undo(), -1);
    }

    private static void running() {
        HalfFair f = Check.open(FAIR);
        Check.rule(f, "buy 9 - price + fits * 20;go 1 if hour = 0;go 0 - 1 if hour = 1");
        // HOUR 0: 0 buys 0 (5), 1 buys 2 (6); both go on, and so do the STALLS
        due("P16 HOUR", f.run(0, 1), 1);
        due("P16 bought", f.buyer(0, 2), 1);
        due("P16 bought", f.buyer(1, 2), 4);
        due("P16 PURSE", f.buyer(0, 0), 16);
        due("P16 SPOT", f.buyer(0, 1), 1);
        due("P16 SPOT", f.buyer(1, 1), 3);
        // HOUR 1: they go backwards: SPOT 0 has STALL 2, SPOT 2 has STALL 0 at HOUR 2
        due("P16 HOUR", f.run(0, 1), 2);
        due("P16 SPOT", f.buyer(0, 1), 0);
        due("P16 bought none", f.count(6), 3);
        // HOUR 2: they stay; at HOUR 3 SPOT 0 has STALL 1: 4 and 1 for 1 each, SPOT 2 STALL 3
        due("P16 HOUR", f.run(0, 2), 4);
        due("P16 bought from dusk on", f.buyer(0, 2), 1 | 2 | 16);
        due("P16 PURSE", f.buyer(0, 0), 14);
        due("P16 bought from dusk on", f.buyer(1, 2), 4 | 8);
        due("P16 PURSE", f.buyer(1, 0), 5);
        due("P16 can't be UNDONE", f.count(8), 0);
    }

    private static void runningEdges() {
        HalfFair f = Check.open(STILL);
        Check.rule(f, "buy 0;go 2");
        Check.rule(f, "buy 5 if shape = 10;buy half if known > 0 and fits = 0;go 1 if buyer = 0 or has > 1");
        due("P16 n 0", f.run(0, 0), -1);
        due("P16 n 49", f.run(0, 49), -1);
        due("P16 no RULE", f.run(2, 1), -1);
        due("P16 no RULE", f.run(-1, 1), -1);
        due("P16 nothing happens", f.count(4), 0);
        f.image(0);
        due("P16 n 48", f.run(0, 48), 48);
        due("P16 a SUM of 0 buys none", f.count(6), 4);
        due("P16 a SUM of 2 STAYS", f.buyer(0, 1), 0);
        due("P16 n 48", f.run(0, 48), 96);
        due("P16 above 99", f.run(0, 4), -1);
        due("P16 99", f.run(0, 3), 99);
        f.back(0);
        f.run(1, 1);
        // alike SUMS: 0 ahead of 1; 2 is known to fit nothing they SAW; 30 - 4 - 6
        due("P16 bought", f.buyer(0, 2), 3);
        due("P16 PURSE", f.buyer(0, 0), 20);
        due("P16 the other has none", f.buyer(1, 2), 0);
        due("P16 GO", f.buyer(0, 1), 1);
        due("P16 STAY", f.buyer(1, 1), 0);
        HalfFair dear = Check.open("stalls 2 0;half 0 1 0 9;half 0 2 0 5;buyer 8 0;dusk 1 9");
        Check.rule(dear, "buy price;go 0 - left");
        dear.run(0, 1);
        due("P16 what they can pay", dear.buyer(0, 2), 2);
        due("P16 GO backwards", dear.buyer(0, 1), 1);
        HalfFair all = Check.open("stalls 2 0" + ";half 1 5 0 2".repeat(12) + ";buyer 99 1");
        Check.rule(all, "buy 1");
        all.run(0, 1);
        due("P16 all twelve in one HOUR", all.buyer(0, 2), 4095);
        due("P16 PURSE", all.buyer(0, 0), 75);
        HalfFair words = Check.open("stalls 2 0;buyer 0 0");
        Check.rule(words, "go 1 if half + shape + side + price + fits + nearly + known = 0");
        words.run(0, 1);
        due("P16 WORDS of a HALF are 0 in go", words.buyer(0, 1), 1);
    }

    private static void worths() {
        HalfFair f = Check.open(FAIR);
        due("P17 none", f.worth(0), 0);
        due("P17 alone", f.worth(8), 9);
        due("P17 FITS", f.worth(3), 40);
        due("P17 NEARLY", f.worth(5), 20);
        due("P17 not", f.worth(6), 18);
        due("P17 the better pair", f.worth(7), 49);
        due("P17 two pairs", f.worth(23), 80);
        due("P17 all", f.worth(31), 89);
        due("P17 no such HALF", f.worth(32), -1);
        due("P17 below 0", f.worth(-1), -1);
        due("P17 below 0", f.worth(Integer.MIN_VALUE), -1);
        due("P17 a FAIR without HALVES", Check.open("stalls 2 0").worth(0), 0);
        due("P18 with", f.with(23, 0), 1);
        due("P18 with", f.with(23, 4), 2);
        due("P18 alone", f.with(7, 2), -1);
        // 2 or 3 may be with 4: 2 alone comes first
        due("P18 alone first", f.with(31, 2), -1);
        due("P18 with", f.with(31, 3), 4);
        due("P18 with", f.with(31, 4), 3);
        due("P18 not in that set", f.with(23, 3), -2);
        due("P18 no HALF", f.with(31, 5), -2);
        due("P18 no HALF", f.with(31, -1), -2);
        due("P18 no set", f.with(32, 0), -2);
        due("P18 no set", f.with(-1, 0), -2);
        HalfFair four = Check.open("stalls 2 0;half 0 1 0 1;half 0 1 0 1;half 0 1 1 1;half 0 1 1 1");
        due("P18 by numbers", four.with(15, 0), 2);
        due("P18 by numbers", four.with(15, 1), 3);
    }

    private static void walks() {
        HalfFair f = Check.open(STILL);
        // 0 and 1 for 10 gain 40; 2 for 7 gains 9, with 3 for 9 they gain 40: STALL 2 is 2 GOINGS away
        due("P19 the most", f.walk(0, 0), 30 - 10 - 16 + 80);
        due("P19 the first GOING", f.walk(0, 1), -1);
        due("P19 bought", f.walk(0, 2), 15);
        due("P19 one without PURSE", f.walk(2, 0), 0);
        due("P19 one without PURSE", f.walk(2, 2), 0);
        due("P19 no BUYER", f.walk(3, 0), -3);
        due("P19 no BUYER", f.walk(-1, 0), -3);
        due("P19 what 3", f.walk(0, 3), -3);
        due("P19 what -1", f.walk(0, -1), -3);
        f.go(0, 0);
        // two HOURS are left, STALL 2 can't be reached ahead of dusk: 2 alone for 7 gains 2
        due("P19 the most", f.walk(0, 0), 30 - 17 + 49);
        due("P19 bought", f.walk(0, 2), 7);
        f.go(0, 1);
        f.go(0, 1);
        due("P19 at dusk", f.walk(0, 1), -2);
        due("P19 at dusk", f.walk(0, 0), 30);
        due("P19 at dusk", f.walk(0, 2), 0);
        due("P19 nothing changes", f.count(6), 4);
    }

    private static void walkEdges() {
        HalfFair f = Check.open("stalls 5 0;half 1 1 0 3;half 4 1 1 9;half 4 7 1 9;buyer 12 0;dusk 13 1");
        due("P19 13 HOURS", f.walk(0, 0), -4);
        due("P19 13 HOURS", f.walk(0, 1), -4);
        due("P19 13 HOURS", f.walk(0, 2), -4);
        due("P19 what 3", f.walk(0, 3), -3);
        f.go(0, 0);
        due("P19 12 HOURS", f.walk(0, 0), 40);
        due("P19 bought", f.walk(0, 2), 3);
        // a HALF for 9 alone gains nothing: the least set, and any GOING
        HalfFair even = Check.open("stalls 3 1;half 0 1 0 9;buyer 9 0;dusk 2 1");
        due("P19 nothing gained", even.walk(0, 0), 9);
        due("P19 the least", even.walk(0, 1), -1);
        due("P19 the least as bits", even.walk(0, 2), 0);
        // STALL 1 comes by at SPOT 2, to which 1 leads alone
        HalfFair moved = Check.open("stalls 4 1;half 1 1 0 1;buyer 9 1;dusk 2 1");
        moved.go(0, 0);
        due("P19 too late", moved.walk(0, 0), 9);
        HalfFair ahead = Check.open("stalls 4 1;half 1 1 0 1;buyer 9 0;buyer 9 1;buyer 9 2;buyer 9 3;dusk 2 1");
        due("P19 not in reach", ahead.walk(0, 0), 9);
        due("P19 at once", ahead.walk(1, 2), 1);
        due("P19 at once", ahead.walk(1, 1), -1);
        due("P19 it comes", ahead.walk(2, 0), 17);
        due("P19 one stays", ahead.walk(2, 1), 0);
        due("P19 one goes to it", ahead.walk(3, 1), -1);
    }

    private static void chances() {
        HalfFair f = Check.open(FAIR);
        // unseen are 1, 3 and 4: 1 and 4 fit 0, 4 alone fits 2
        due("P20 above", f.chance(0, 0, 0), 2);
        due("P20 below", f.chance(0, 0, 1), 3);
        due("P20 above", f.chance(1, 2, 0), 1);
        due("P20 below", f.chance(1, 2, 1), 3);
        due("P20 part 2", f.chance(0, 0, 2), -1);
        due("P20 part -1", f.chance(0, 0, -1), -1);
        due("P20 no HALF", f.chance(0, 5, 0), -1);
        due("P20 no BUYER", f.chance(2, 0, 0), -1);
        f.go(0, 0);
        due("P20 0 of 1", f.chance(0, 0, 0), 0);
        due("P20 0 of 1", f.chance(0, 0, 1), 1);
        f.go(0, 0);
        f.go(0, 0);
        due("P20 none unseen", f.chance(0, 0, 0), 0);
        due("P20 none unseen", f.chance(0, 0, 1), 1);
        HalfFair half = Check.open("stalls 2 0;half 1 1 0 1;half 1 1 1 1;half 1 1 1 1;half 1 2 1 1;buyer 1 0");
        due("P20 lowest terms", half.chance(0, 0, 0), 1);
        due("P20 lowest terms", half.chance(0, 0, 1), 2);
    }

    private static void yielding() {
        HalfFair f = Check.open("stalls 2 0;half 0 10 0 1;half 0 10 1 1;half 0 10 1 1;half 0 11 0 1;half 0 50 0 1;"
            + "buyer 9 0;buyer 9 0;near 1");
        f.buy(0, 0);
        f.buy(0, 2);
        f.buy(1, 1);
        f.buy(1, 4);
        // to 0 the HALF 1 is worth 49 - 40, to 1 the HALF 0 is worth 49 - 18
        due("P21 who", f.yields(0, 0, 1, 1, 0), 0);
        due("P21 how much", f.yields(0, 0, 1, 1, 1), 20);
        due("P21 who, the other way", f.yields(1, 1, 0, 0, 0), 0);
        due("P21 how much", f.yields(1, 1, 0, 0, 1), 20);
        due("P21 not FIT at all", f.yields(0, 2, 1, 1, 0), -1);
        due("P21 not theirs", f.yields(0, 1, 1, 0, 0), -1);
        due("P21 one BUYER", f.yields(0, 0, 0, 2, 0), -1);
        due("P21 what 2", f.yields(0, 0, 1, 1, 2), -1);
        due("P21 what -1", f.yields(0, 0, 1, 1, -1), -1);
        due("P21 no BUYER", f.yields(0, 0, 2, 1, 0), -1);
        f.giveUp(0, 2);
        f.giveUp(1, 4);
        f.go(1, 1);
        due("P21 alike: the lesser", f.yields(1, 1, 0, 0, 0), 0);
        due("P21 at two SPOTS, too", f.yields(0, 0, 1, 1, 1), 31);
        f.go(1, 1);
        f.giveUp(0, 0);
        f.buy(0, 3);
        due("P21 NEARLY", f.yields(0, 3, 1, 1, 1), 11);
    }

    private static void crying() {
        HalfFair f = Check.open("stalls 3 0;half 0 20 0 1;half 0 10 0 1;half 0 30 0 1;half 0 5 0 1;half 1 20 1 1;"
            + "half 1 10 1 1;half 2 20 1 1;half 1 10 0 1;forged 3;buyer 9 0;buyer 9 1");
        due("P22 they have none", f.cry(0, 0), -2);
        due("P22 how many then", f.cry(0, 1), 0);
        f.buy(0, 3);
        due("P22 FORGED alone", f.cry(0, 0), -2);
        f.buy(0, 2);
        due("P22 none fits", f.cry(0, 0), 30);
        due("P22 none fits", f.cry(0, 1), 0);
        f.buy(0, 0);
        f.buy(0, 1);
        // 20 is fitted by 4 and 6, 10 by 5
        due("P22 SHAPE", f.cry(0, 0), 20);
        due("P22 how many", f.cry(0, 1), 2);
        f.buy(1, 4);
        due("P22 alike: the least", f.cry(0, 0), 10);
        due("P22 how many", f.cry(0, 1), 1);
        HalfFair zero = Check.open("stalls 2 0;half 0 0 0 1;half 0 7 0 1;half 1 0 1 1;half 1 9 1 1;buyer 9 0");
        zero.buy(0, 0);
        zero.buy(0, 1);
        due("P22 SHAPE 0", zero.cry(0, 0), 0);
        due("P22 how many", zero.cry(0, 1), 1);
        due("P22 what 2", f.cry(0, 2), -1);
        due("P22 what -1", f.cry(0, -1), -1);
        due("P22 no BUYER", f.cry(2, 0), -1);
        f.go(0, 1);
        due("P22 SEEN", f.cry(0, 0), 20);
    }

    private static void bringing() {
        HalfFair f = Check.open("stalls 4 0;half 3 10 0 5;half 0 10 1 5;buyer 9 0;buyer 4 2;dusk 4 1");
        Check.rule(f, "buy 1 if half = 0;go 1");
        Check.rule(f, "buy 1 if half = 0;go 0");
        Check.rule(f, "go 1");
        // to STALL 0: at once; the second BUYER can't pay
        due("P23 STALL", f.bring(0, 0, 0), 0);
        due("P23 HOUR", f.bring(0, 0, 1), 0);
        due("P23 by nobody", f.bring(2, 0, 0), -2);
        due("P23 by nobody", f.bring(2, 0, 1), -2);
        due("P23 never wanted", f.bring(0, 1, 0), -2);
        due("P23 no RULE", f.bring(3, 0, 0), -1);
        due("P23 no RULE", f.bring(-1, 0, 0), -1);
        due("P23 no HALF", f.bring(0, 2, 0), -1);
        due("P23 what 2", f.bring(0, 0, 2), -1);
        due("P23 nothing changes", f.half(0, 3), 3);
        f.go(0, 1);
        due("P23 soonest", f.bring(0, 0, 0), 1);
        due("P23 the HOUR", f.bring(0, 0, 1), 1);
        f.go(0, 1);
        f.go(0, 1);
        // where it is does not count: from SPOT 3 STALL 0 comes next, but it is dusk then
        due("P23 till dusk", f.bring(0, 0, 0), -2);
        due("P23 BUY", f.buy(0, 0), 4);
        due("P23 a BUYER's: PURSE is less now", f.bring(0, 0, 0), -2);
        f.undo();
        f.go(0, 0);
        due("P23 from dusk on", f.bring(0, 0, 0), -2);
        HalfFair own = Check.open("stalls 3 1;half 1 10 0 2;buyer 9 1;dusk 3 1");
        Check.rule(own, "buy 1;go 0");
        own.buy(0, 0);
        // STALL 1 is at SPOT 1 now, STALL 0 an HOUR later
        due("P23 a BUYER's", own.bring(0, 0, 0), 1);
        due("P23 a BUYER's", own.bring(0, 0, 1), 0);
        own.undo();
        due("P23 another one", own.bring(0, 0, 0), 0);
        due("P23 another one", own.bring(0, 0, 1), 1);
    }

    private static void trials() {
        HalfFair f = Check.open(FAIR);
        due("P24 TRIAL", f.trial(0, 1, true), 1);
        due("P24 alike", f.trial(1, 1, true), -2);
        due("P24 no HALF", f.trial(0, 5, true), -2);
        due("P24 no HALF", f.trial(-2, 0, true), -2);
        due("P24 no HALF", f.trial(0, -1, true), -2);
        due("P24 nothing happens", f.count(7), 1);
        for (int i = 2; i <= 12; i++) {
            due("P24 TRIAL", f.trial(0, 1, true), i);
        }
        due("P24 a 13th", f.trial(0, 1, true), -2);
        due("P24 none then", f.trial(-1, 9, false), 0);
        due("P24 none then", f.count(7), 0);
    }

    private static void forgersAndHonest() {
        HalfFair f = Check.open(FAIR);
        due("P25 without TRIALS", f.forgers(0), 0);
        due("P25 without TRIALS all are HONEST", f.forgers(1), 31);
        due("P25 what 2", f.forgers(2), -1);
        due("P25 what -1", f.forgers(-1), -1);
        f.trial(0, 1, true);
        due("P25 fit by SHAPE", f.forgers(0), 0);
        f.trial(0, 2, true);
        // NEARLY is not FITTED: 0 or 2 is FORGED
        due("P25 of several the least", f.forgers(0), 1);
        due("P25 HONEST", f.forgers(1), 2 | 8 | 16);
        f.trial(0, 3, false);
        due("P25 cleared", f.forgers(0), 4);
        due("P25 HONEST", f.forgers(1), 1 | 2 | 8 | 16);
        f.trial(1, 4, true);
        due("P25 FORGED as told does not count", f.forgers(0), 4 | 2);
        due("P25 HONEST", f.forgers(1), 1 | 8);
        f.trial(2, 4, true);
        due("P25 still two", f.forgers(0), 4 | 2);
        f.trial(2, 3, false);
        due("P25 it can't be so", f.forgers(0), -2);
        due("P25 it can't be so", f.forgers(1), 0);
        f.trial(-1, 0, true);
        f.trial(0, 1, false);
        due("P25 they fit, FORGED or not", f.forgers(0), -2);
        HalfFair star = Check.open("stalls 2 0;half 0 1 0 1;half 0 1 0 1;half 0 1 0 1;half 0 1 0 1");
        star.trial(3, 0, true);
        star.trial(1, 3, true);
        star.trial(3, 2, true);
        due("P25 the fewest", star.forgers(0), 8);
        due("P25 HONEST", star.forgers(1), 7);
    }

    private static void seeds() {
        HalfFair f = new HalfFair();
        due("P26 0 at first", f.seed(7), 0);
        due("P26 below 0", f.seed(-1), -1);
        due("P26 what it was", f.seed(2147483647), 7);
        due("P26 x", f.count(9), 2147483647);
        due("P26 what it was", f.seed(0), 2147483647);
    }

    private static void fairsDrawn() {
        HalfFair f = Check.open("stalls 3 0;half 0 1 0 1;half 1 1 1 1;half 2 5 0 1;buyer 9 0;dusk 2 1");
        Check.rule(f, "buy 1;go 1");
        due("P27 by the RULE alone", f.fairs(0, 1, 0, 0), 2);
        due("P27 WORTH", f.fairs(0, 1, 0, 1), 40);
        due("P27 m times", f.fairs(0, 10, 0, 0), 20);
        due("P27 m times", f.fairs(0, 10, 0, 1), 400);
        // from 0 on x / 65536 is 0, 21468, 9988, 22117, 3498, 16927, 16045, 19741 ..
        // p 100: (0) 21468 % 3 - 1 = -1, (9988) 22117 % 3 - 1 = 0: STALLS 0 and 2
        due("P27 drawn", f.fairs(0, 1, 100, 0), 2);
        due("P27 drawn", f.fairs(0, 1, 100, 1), 18);
        // the second time: (3498) 16927 % 3 - 1 = 0: STALL 0 alone
        due("P27 x goes on", f.fairs(0, 2, 100, 0), 3);
        due("P27 x goes on", f.fairs(0, 2, 100, 1), 27);
        due("P27 x as it was", f.count(9), 0);
        due("P27 nothing stays", f.count(6), 3);
        due("P27 nothing stays", f.count(4), 0);
        // p 1: the first DRAW mod 100, 0, is below it; the third, 88, is not
        due("P27 below p", f.fairs(0, 1, 1, 1), 18);
        due("P27 m 0", f.fairs(0, 0, 0, 0), -1);
        due("P27 m 11", f.fairs(0, 11, 0, 0), -1);
        due("P27 p 101", f.fairs(0, 1, 101, 0), -1);
        due("P27 p -1", f.fairs(0, 1, -1, 0), -1);
        due("P27 what 2", f.fairs(0, 1, 0, 2), -1);
        due("P27 what -1", f.fairs(0, 1, 0, -1), -1);
        due("P27 no RULE", f.fairs(1, 1, 0, 0), -1);
        due("P27 no RULE", f.fairs(-1, 1, 0, 0), -1);
        f.buy(0, 0);
        f.go(0, 0);
        f.go(0, 0);
        due("P27 from dusk on none", f.fairs(0, 3, 50, 0), 0);
        due("P27 WORTH of what they have", f.fairs(0, 3, 50, 1), 27);
        HalfFair none = new HalfFair();
        Check.rule(none, "buy 1");
        due("P27 no FAIR", none.fairs(0, 1, 0, 0), -1);
        due("P16 no FAIR", none.run(0, 1), -1);
    }

    private static void counts() {
        HalfFair f = Check.open(FAIR);
        Check.rule(f, "buy 1");
        f.buy(0, 0);
        f.go(0, 0);
        f.trial(0, 1, true);
        f.seed(9);
        f.feed(0, 0, 0, 0, 0);
        int[] want = {4, 5, 2, 1, 1, 2, 4, 1, 2, 9, 20};
        for (int what = 0; what < want.length; what++) {
            due("P28 what " + what, f.count(what), want[what]);
        }
        due("P28 what 11", f.count(11), -1);
        due("P28 what -1", f.count(-1), -1);
        f.go(0, 0);
        f.go(0, 0);
        f.go(0, 0);
        due("P28 HOURS till dusk", f.count(5), 0);
    }

    private static void images() {
        HalfFair f = new HalfFair();
        due("P29 without a FAIR", f.image(3), 0);
        Check.fair(f, FAIR);
        f.seed(3);
        f.buy(0, 0);
        f.go(0, 0);
        f.trial(0, 1, true);
        due("P29 IMAGE", f.image(0), 1);
        due("P29 no IMAGE", f.image(4), -1);
        due("P29 no IMAGE", f.image(-1), -1);
        due("P30 never made", f.back(1), -1);
        due("P30 no IMAGE", f.back(4), -1);
        due("P30 no IMAGE", f.back(-1), -1);
        due("P30 nothing happens", f.count(8), 2);
        Check.fair(f, STILL);
        Check.rule(f, "buy 1");
        f.seed(4);
        f.feed(0, 0, 0, 0, 0);
        due("P30 another FAIR's worth", f.worth(3), 40);
        due("P30 another FAIR's worth", f.worth(8), 9);
        due("P30 HOUR", f.back(0), 1);
        due("P30 HALVES", f.count(1), 5);
        due("P30 theirs", f.half(0, 3), 100);
        due("P30 PURSE", f.buyer(0, 0), 16);
        due("P30 SEEN", f.buyer(0, 3), 31);
        due("P30 TRIALS", f.count(7), 1);
        due("P30 x", f.count(9), 3);
        due("P30 nothing can be UNDONE", f.count(8), 0);
        due("P30 the TAPE stays", f.count(10), 20);
        due("P30 RULES stay", f.count(3), 1);
        due("P30 its WORTH", f.worth(31), 89);
        f.go(0, 0);
        due("P30 once more", f.back(0), 1);
        due("P30 to no FAIR", f.back(3), 0);
        due("P30 to no FAIR", f.count(0), 0);
        due("P30 to no FAIR", f.count(5), -1);
        due("P30 to no FAIR", f.forgers(0), -1);
        due("P30 to no FAIR", f.worth(0), -1);
        due("P30 and on", f.back(0), 1);
        f.image(2);
        f.go(0, 0);
        f.image(0);
        due("P29 made anew", f.back(0), 2);
        due("P29 each its own", f.back(2), 1);
    }
}
