/** Every call with numbers from one end of int to the other, with and without a FAIR, held against the Model. */
public final class ExtremesTest {
    private static final int[] NUMBERS = {Integer.MIN_VALUE, -3, -2, -1, 0, 1, 2, 3, 5, 11, 12, 31, 32, 99, 100, 101,
        4095, 4096, Integer.MAX_VALUE};
    private static final String FAIR = "stalls 3 1;half 0 10 0 4;half 1 10 1 6;half 2 12 1 3;half 0 50 0 8;half 0 9 1 2;"
        + "forged 3;buyer 20 0;buyer 9 0;near 2;dusk 4 1";
    private static final Check CHECK = new Check();

    private HalfFair fair = new HalfFair();
    private Model model = new Model();

    public static void main(String[] args) {
        ExtremesTest without = new ExtremesTest();
        without.all();
        ExtremesTest within = new ExtremesTest();
        within.open();
        within.all();
        ExtremesTest bought = new ExtremesTest();
        bought.open();
        bought.fair.buy(0, 0);
        bought.model.buy(0, 0);
        bought.fair.buy(1, 4);
        bought.model.buy(1, 4);
        bought.fair.image(1);
        bought.model.image(1);
        bought.all();
        CHECK.finish();
    }

    private void open() {
        Check.fair(fair, FAIR);
        model.tape.append(FAIR);
        model.fair();
        String rule = "buy 3 + fits - price / 3;go hour % 2";
        Check.rule(fair, rule);
        model.tape.append(rule);
        model.rule();
    }

    private void same(String call, long got, long want) {
        CHECK.due(call, got, want);
    }

    private void all() {
        for (int a : NUMBERS) {
            one(a);
            for (int b : NUMBERS) {
                String told = "(" + a + ", " + b;
                two(a, b, told);
                for (int c : NUMBERS) {
                    three(a, b, c, told + ", " + c);
                }
            }
        }
        for (int a : new int[] {-1, 0, 1, 2}) {
            for (int h : NUMBERS) {
                for (int b : new int[] {-1, 0, 1, 2}) {
                    for (int i : NUMBERS) {
                        four(a, h, b, i);
                    }
                }
            }
        }
    }

    private void one(int a) {
        same("worth " + a, fair.worth(a), model.worth(a));
        same("forgers " + a, fair.forgers(a), model.forgers(a));
        same("count " + a, fair.count(a), model.count(a));
        same("seed " + a, fair.seed(a), model.seed(a));
        same("image " + a, fair.image(a), model.image(a));
        same("back " + a, fair.back(a), model.back(a));
        same("end " + a, fair.end(a), model.end(a));
        same("undo", fair.undo(), model.undo());
    }

    private void two(int a, int b, String told) {
        same("half" + told, fair.half(a, b), model.half(a, b));
        same("fit" + told, fair.fit(a, b), model.fit(a, b));
        same("buyer" + told, fair.buyer(a, b), model.buyer(a, b));
        same("spot" + told, fair.spot(a, b), model.spot(a, b));
        same("with" + told, fair.with(a, b), model.with(a, b));
        same("walk" + told, fair.walk(a, b), model.walk(a, b));
        same("cry" + told, fair.cry(a, b), model.cry(a, b));
        same("shout" + told, fair.shout(a, b), model.shout(a, b));
        same("go" + told, fair.go(a, b), model.go(a, b));
        same("undo" + told, fair.undo(), model.undo());
        same("buy" + told, fair.buy(a, b), model.buy(a, b));
        same("giveUp" + told, fair.giveUp(a, b), model.giveUp(a, b));
        same("run" + told, fair.run(a, b), model.run(a, b));
        same("back" + told, fair.back(1), model.back(1));
    }

    private void three(int a, int b, int c, String told) {
        same("chance" + told, fair.chance(a, b, c), model.chance(a, b, c));
        same("bring" + told, fair.bring(a, b, c), model.bring(a, b, c));
        same("trial" + told, fair.trial(a, b, c > 0), model.trial(a, b, c > 0));
        same("fairs" + told, fair.fairs(0, a, b, c), model.fairs(0, a, b, c));
        same("fairs" + told, fair.fairs(a, 1, b, c), model.fairs(a, 1, b, c));
    }

    private void four(int a, int h, int b, int i) {
        String told = "(" + a + ", " + h + ", " + b + ", " + i;
        same("yields" + told, fair.yields(a, h, b, i, 0), model.yields(a, h, b, i, 0));
        same("yields" + told, fair.yields(a, h, b, i, 1), model.yields(a, h, b, i, 1));
        same("yields" + told, fair.yields(a, h, b, i, i), model.yields(a, h, b, i, i));
        same("swap" + told, fair.swap(a, h, b, i) ? 1 : 0, model.swap(a, h, b, i) ? 1 : 0);
    }
}
