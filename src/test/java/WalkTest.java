import java.util.ArrayList;
import java.util.List;
import java.util.Random;

/** WALKS of up to 12 HOURS: every row of GOINGS is gone, and every set that can be bought on it is weighed. */
public final class WalkTest {
    private static final int FAIRS = 150;
    private static final Check CHECK = new Check();

    private final Model.State state;
    private final int buyer;
    /** By the STALLS that were come by: bits of first GOINGS. */
    private final int[] firsts = new int[256];

    private WalkTest(Model.State state, int buyer) {
        this.state = state;
        this.buyer = buyer;
    }

    public static void main(String[] args) {
        Random random = new Random(12);
        for (int i = 0; i < FAIRS; i++) {
            int hours = 5 + i % 8;
            String text = fairText(random, hours);
            HalfFair fair = Check.open(text);
            Model model = new Model();
            model.tape.append(text);
            model.fair();
            for (int b = 0; b < 2; b++) {
                new WalkTest(model.s, b).compare(fair, text);
            }
        }
        CHECK.finish();
    }

    private static String fairText(Random random, int hours) {
        int stalls = 2 + random.nextInt(7);
        StringBuilder text = new StringBuilder("stalls " + stalls + " " + random.nextInt(8));
        int halves = 3 + random.nextInt(8);
        for (int h = 0; h < halves; h++) {
            text.append(";half ").append(random.nextInt(stalls)).append(' ').append(random.nextInt(4));
            text.append(' ').append(random.nextInt(2)).append(' ').append(1 + random.nextInt(19));
        }
        for (int b = 0; b < 2; b++) {
            text.append(";buyer ").append(random.nextInt(60)).append(' ').append(random.nextInt(stalls));
        }
        return text.append(";near ").append(random.nextInt(2)).append(";dusk ").append(hours).append(" 1").toString();
    }

    private void goAll(int hour, int spot, int visited, int first) {
        int stall = 0;
        while (state.spotOf(stall, hour) != spot) {
            stall++;
        }
        int now = visited | 1 << stall;
        for (int g = 0; g < 3; g++) {
            int next = first == 0 ? 1 << g : first;
            if (hour + 1 == state.dusk) {
                firsts[now] |= next;
            } else {
                goAll(hour + 1, (spot + g - 1 + state.stalls) % state.stalls, now, next);
            }
        }
    }

    private void compare(HalfFair fair, String text) {
        goAll(0, state.buyers.get(buyer)[1], 0, 0);
        int purse = state.buyers.get(buyer)[0];
        int most = -1;
        int ways = 0;
        int bought = 0;
        for (int set = 0; set < 1 << state.halves.size(); set++) {
            List<Integer> list = new ArrayList<>();
            int cost = 0;
            int needed = 0;
            for (int h = 0; h < state.halves.size(); h++) {
                if ((set >> h & 1) == 1) {
                    list.add(h);
                    cost += state.halves.get(h)[3];
                    needed |= 1 << state.halves.get(h)[0];
                }
            }
            int leading = 0;
            for (int visited = 0; visited < 256; visited++) {
                leading |= (visited & needed) == needed ? firsts[visited] : 0;
            }
            int value = leading == 0 || cost > purse ? -1 : state.worth(list) + purse - cost;
            if (value > most) {
                most = value;
                bought = set;
                ways = leading;
            } else if (value == most && value >= 0) {
                ways |= leading;
            }
        }
        CHECK.due("walk 0 of " + buyer + " in " + text, fair.walk(buyer, 0), most);
        CHECK.due("walk 1 of " + buyer + " in " + text, fair.walk(buyer, 1), Integer.numberOfTrailingZeros(ways) - 1);
        CHECK.due("walk 2 of " + buyer + " in " + text, fair.walk(buyer, 2), bought);
    }
}
