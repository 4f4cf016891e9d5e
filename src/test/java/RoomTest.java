import com.sun.management.ThreadMXBean;
import java.lang.management.ManagementFactory;

/**
 * An object and its 512 calls stay far below the room that LANGUAGE.md's rule 12 and the task leave
 * (7.3 million fields and elements), whichever call it is; and the 512th is answered like the first.
 */
public final class RoomTest {
    private static final Check CHECK = new Check();
    private static final int CALLS = 512;
    private static final long MOST_BYTES = 1_000_000;
    private static final String FULL = "stalls 8 3" + ";half 7 9 0 1;half 0 9 1 1".repeat(6)
        + ";forged 11;buyer 99 7;buyer 99 7;buyer 99 0;buyer 99 3;club 3 2;near 9;dusk 12 1;hear 7";
    private static final String RULE = "buy 1" + "+fits*known".repeat(19) + " if price<99;go hour%3-1 if 1=1 and 2=2";

    private final ThreadMXBean bean = (ThreadMXBean) ManagementFactory.getThreadMXBean();

    public static void main(String[] args) {
        RoomTest test = new RoomTest();
        for (int kind = 0; kind < 16; kind++) {
            test.fill(kind);
        }
        lastCall();
        CHECK.finish();
    }

    private void fill(int kind) {
        int[][] fed = new int[20][];
        for (int i = 0; i < 20; i++) {
            fed[i] = Check.fiveOf(FULL, 20 * i);
        }
        long before = bean.getCurrentThreadAllocatedBytes();
        HalfFair f = new HalfFair();
        tell(f, fed);
        Check.rule(f, RULE);
        f.buy(0, 0);
        f.buy(2, 1);
        for (int i = 0; i < CALLS; i++) {
            call(f, kind, i, fed);
        }
        long bytes = bean.getCurrentThreadAllocatedBytes() - before;
        CHECK.due("kind " + kind + " takes " + bytes + " bytes: too many", bytes > MOST_BYTES, false);
    }

    private static int tell(HalfFair f, int[][] fed) {
        f.end(0);
        for (int at = 0; at < FULL.length(); at += 20) {
            int[] five = fed[at / 20];
            f.feed(five[0], five[1], five[2], five[3], five[4]);
        }
        f.end(FULL.length());
        return f.fair();
    }

    private static int call(HalfFair f, int kind, int i, int[][] fed) {
        switch (kind) {
            case 0: return tell(f, fed);
            case 1: return f.fair() + f.rule();
            case 2: return f.go(i & 3, 1) + f.undo();
            case 3: return f.run(0, 1);
            case 4: return f.worth(i * 8 % 4096) + f.with(4095, i % 12);
            case 5: return f.walk(i & 3, i % 3);
            case 6: return f.chance(i & 3, i % 12, i & 1);
            case 7: return f.yields(0, 0, 2, 1, i & 1);
            case 8: return f.cry(i & 3, i & 1);
            case 9: return f.bring(0, i % 12, i & 1);
            case 10: return f.trial(i % 12, (i + 5) % 12, true) + f.forgers(i & 1);
            case 11: return f.fairs(0, 10, i % 101, i & 1);
            case 12: return f.image(i & 3) + f.back(i & 3);
            case 13: return f.buy(1, 2) + f.giveUp(1, 2) + f.undo();
            case 14: return f.shout(i & 3, 9) + f.undo();
            default: return f.buyer(i & 3, i % 6) + f.half(i % 12, i % 5) + f.count(i % 12) + f.spot(i & 7, i % 100);
        }
    }

    private static void lastCall() {
        CHECK.says("An object is used for at most 512 calls after it has been made");
        HalfFair f = new HalfFair();
        int calls = 0;
        for (int at = 0; at < 40; at += 20) {
            int[] five = Check.fiveOf("stalls 5 1;half 0 3 0 2;buyer 9 0;dusk 3", at);
            f.feed(five[0], five[1], five[2], five[3], five[4]);
            calls++;
        }
        f.end(33);
        CHECK.due("fair", f.fair(), 1);
        CHECK.due("image", f.image(0), 0);
        calls += 3;
        for (; calls < CALLS - 3; calls += 3) {
            CHECK.due("go, call " + calls, f.go(0, 1), 1);
            CHECK.due("buy, call " + calls, f.buy(0, 0), 7);
            CHECK.due("back, call " + calls, f.back(0), 0);
        }
        CHECK.due("walk", f.walk(0, 0), 16);
        CHECK.due("the last", f.half(0, 3), 0);
    }
}
