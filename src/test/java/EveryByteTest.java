/** Sound texts spoilt at each place by each byte, and cut at each place: what fair() and rule() answer is the Model's. */
public final class EveryByteTest {
    private static final String[] FAIRS = {
        "stalls 3 7;half 2 99 1 99;forged 0;buyer 999 2;buyer 0 0;club 0 1;near 9;dusk 24 99;hear 7",
        " stalls  8 0 ; buyer 1 1 ;half 0 0 0 1;dusk 1 1",
    };
    private static final String[] RULES = {
        "buy price*2-known/3%4+left if not [fits>=1 or nearly<2] and purse <= 99999;go 1",
        "go 0-1 if [[not spot=1]and has>0]or hour<side ; buy half+shape+buyer",
    };
    private static final Check CHECK = new Check();

    public static void main(String[] args) {
        for (String text : FAIRS) {
            spoil(text, true);
        }
        for (String text : RULES) {
            spoil(text, false);
        }
        CHECK.finish();
    }

    private static void spoil(String text, boolean isFair) {
        same(text, isFair);
        for (int at = 0; at <= text.length(); at++) {
            String head = text.substring(0, at);
            String tail = text.substring(at);
            same(head, isFair);
            if (at < text.length()) {
                same(head + tail.substring(1), isFair);
                same(head + tail.charAt(0) + tail, isFair);
            }
            for (int sign = 0; sign < 256; sign++) {
                same(head + (char) sign + tail, isFair);
                if (at < text.length()) {
                    same(head + (char) sign + tail.substring(1), isFair);
                }
            }
        }
    }

    private static void same(String text, boolean isFair) {
        HalfFair fair = new HalfFair();
        Model model = new Model();
        model.tape.append(text);
        Check.tape(fair, text);
        CHECK.due(text, isFair ? fair.fair() : fair.rule(), isFair ? model.fair() : model.rule());
        CHECK.due("TAPE behind " + text, fair.count(10), model.count(10));
    }
}
