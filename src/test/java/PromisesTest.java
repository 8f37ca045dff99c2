/** Each promise of the document by itself: ordinary inputs, edges, and wrong inputs; all due answers are worked out by hand. */
public final class PromisesTest {
    private static final String INDEX = "IndexOutOfBoundsException";
    private static final String ARGUMENT = "IllegalArgumentException";
    private static final String STATE = "IllegalStateException";
    private static final int LOW = Integer.MIN_VALUE;
    private static final int HIGH = Integer.MAX_VALUE;
    private static int wrong = 0;

    interface Call {
        double answer();
    }

    public static void main(String[] args) {
        promise1New();
        promise2Set();
        promise3SetRain();
        promise4Spill();
        promise5Come();
        promise6Send();
        promise7Buy();
        promise8Sweeper();
        promise9Crossing();
        promise10Count();
        promise11MudAndRain();
        promise11Sweeping();
        promise11Paying();
        promise11Pitches();
        promise11Neighbours();
        promise11Pass();
        promise12Way();
        promise13Earns();
        promise14Advise();
        promise15Foresee();
        promise16Mean();
        promise17Digest();
        System.out.println(wrong == 0 ? "all answers are as due" : wrong + " answers are not as due");
        if (wrong != 0) {
            System.exit(1);
        }
    }

    private static void due(String what, double got, double want) {
        if (got != want) {
            wrong++;
            System.out.println(what + " answered " + got + ", due is " + want);
        }
    }

    /** The call throws this very class of exception, and nothing that can be asked is changed by it. */
    private static void fails(MudSweepers x, String what, String want, Call call) {
        long before = x.digest();
        String got = "nothing";
        try {
            call.answer();
        } catch (RuntimeException e) {
            got = e.getClass().getSimpleName();
        }
        if (!got.equals(want)) {
            wrong++;
            System.out.println(what + " throws " + got + ", due is " + want);
        }
        due("digest() after " + what, x.digest() == before ? 1 : 0, 1);
    }

    private static void dueSweeper(MudSweepers x, int sweeper, int... facts) {
        for (int what = 0; what < facts.length; what++) {
            due("sweeper(" + sweeper + ", " + what + ")", x.sweeper(sweeper, what), facts[what]);
        }
    }

    private static void dueCrossing(MudSweepers x, int crossing, int... facts) {
        for (int what = 0; what < facts.length; what++) {
            due("crossing(" + crossing + ", " + what + ")", x.crossing(crossing, what), facts[what]);
        }
    }

    private static void dueCity(MudSweepers x, int... facts) {
        for (int what = 0; what < facts.length; what++) {
            due("count(" + what + ")", x.count(what), facts[what]);
        }
    }

    /** A city in which no mud comes by itself and each crossing has as many walkers. */
    private static MudSweepers stillCity(int walkers) {
        MudSweepers x = new MudSweepers();
        for (int c = 0; c < 9; c++) {
            x.set(c, 0, walkers);
        }
        return x;
    }

    private static void promise1New() {
        MudSweepers x = new MudSweepers();
        dueCity(x, 0, 0, 0, 0, 0, 9, 0, 0);
        for (int c = 0; c < 9; c++) {
            dueCrossing(x, c, 0, 2, 10, -1, 0, 0);
        }
        for (int q = 0; q < 8; q++) {
            due("setRain of a new object", x.setRain(q, 0), 0);
        }
        fails(x, "sweeper(0, 0) of a new object", INDEX, () -> x.sweeper(0, 0));
        x.spill(0, 3);
        due("another object's mud", new MudSweepers().crossing(0, 0), 0);
    }

    private static void promise2Set() {
        MudSweepers x = new MudSweepers();
        due("set(3, 9, 30)", x.set(3, 9, 30), 210);
        due("set(3, 0, 0)", x.set(3, 0, 0), 930);
        due("set(3, 4, 17)", x.set(3, 4, 17), 0);
        dueCrossing(x, 3, 0, 4, 17, -1, 0, 0);
        due("set(0, 1, 2)", x.set(0, 1, 2), 210);
        due("set(8, 1, 2)", x.set(8, 1, 2), 210);
        dueCrossing(x, 2, 0, 2, 10);
        for (int c : new int[] {-1, 9, LOW, HIGH}) {
            fails(x, "set(" + c + ", 1, 1)", INDEX, () -> x.set(c, 1, 1));
            fails(x, "set(" + c + ", 10, 31)", INDEX, () -> x.set(c, 10, 31));
        }
        for (int k : new int[] {-1, 10, LOW, HIGH}) {
            fails(x, "set(0, " + k + ", 1)", ARGUMENT, () -> x.set(0, k, 1));
        }
        for (int w : new int[] {-1, 31, LOW, HIGH}) {
            fails(x, "set(0, 5, " + w + ")", ARGUMENT, () -> x.set(0, 5, w));
        }
    }

    private static void promise3SetRain() {
        MudSweepers x = new MudSweepers();
        due("setRain(0, 9)", x.setRain(0, 9), 0);
        due("setRain(7, 4)", x.setRain(7, 4), 0);
        due("setRain(0, 0)", x.setRain(0, 0), 9);
        due("setRain(7, 1)", x.setRain(7, 1), 4);
        for (int q : new int[] {-1, 8, LOW, HIGH}) {
            fails(x, "setRain(" + q + ", 1)", INDEX, () -> x.setRain(q, 1));
            fails(x, "setRain(" + q + ", 10)", INDEX, () -> x.setRain(q, 10));
        }
        for (int r : new int[] {-1, 10, LOW, HIGH}) {
            fails(x, "setRain(7, " + r + ")", ARGUMENT, () -> x.setRain(7, r));
        }
    }

    private static void promise4Spill() {
        MudSweepers x = new MudSweepers();
        due("spill(2, 1)", x.spill(2, 1), 1);
        due("spill(2, 48)", x.spill(2, 48), 49);
        due("spill(2, 1)", x.spill(2, 1), 50);
        due("spill(2, 1)", x.spill(2, 1), 50);
        due("spill(8, 50)", x.spill(8, 50), 50);
        dueCrossing(x, 2, 50);
        dueCrossing(x, 1, 0);
        for (int c : new int[] {-1, 9, LOW, HIGH}) {
            fails(x, "spill(" + c + ", 1)", INDEX, () -> x.spill(c, 1));
            fails(x, "spill(" + c + ", 0)", INDEX, () -> x.spill(c, 0));
        }
        for (int m : new int[] {0, -1, 51, LOW, HIGH}) {
            fails(x, "spill(0, " + m + ")", ARGUMENT, () -> x.spill(0, m));
        }
    }

    private static void promise5Come() {
        MudSweepers x = new MudSweepers();
        due("come(8, 9)", x.come(8, 9), 0);
        due("come(0, 1)", x.come(0, 1), 1);
        dueSweeper(x, 0, 8, 9, 40, 0, 0, 0, 0, 14);
        dueSweeper(x, 1, 0, 1, 40, 0, 0, 0, 0, 6);
        dueCrossing(x, 8, 0, 2, 10, -1, 1, 0);
        for (int c : new int[] {-1, 9, LOW, HIGH}) {
            fails(x, "come(" + c + ", 1)", INDEX, () -> x.come(c, 1));
            fails(x, "come(" + c + ", 0)", INDEX, () -> x.come(c, 0));
        }
        for (int s : new int[] {0, -1, 10, LOW, HIGH}) {
            fails(x, "come(0, " + s + ")", ARGUMENT, () -> x.come(0, s));
        }
        for (int i = 2; i < 8; i++) {
            due("come(4, 5)", x.come(4, 5), i);
        }
        dueCity(x, 0, 8, 0);
        fails(x, "the ninth come", STATE, () -> x.come(0, 1));
        fails(x, "the ninth come, crossing 9", INDEX, () -> x.come(9, 0));
        fails(x, "the ninth come, strength 0", ARGUMENT, () -> x.come(0, 0));
    }

    private static void promise6Send() {
        MudSweepers x = new MudSweepers();
        x.come(4, 5);
        x.pass(1);
        dueCrossing(x, 4, 2, 2, 10, 0, 1, 0);
        due("send(0, 8)", x.send(0, 8), 4);
        dueSweeper(x, 0, 8, 5, 40, 0, 0, 0, 0);
        dueCrossing(x, 4, 2, 2, 10, -1, 0, 0);
        dueCrossing(x, 8, 2, 2, 10, -1, 1, 0);
        due("send(0, 0)", x.send(0, 0), 8);
        x.pass(1);
        dueSweeper(x, 0, 0, 5, 40, 0, 1);
        due("send(0, 0) to the own crossing", x.send(0, 0), 0);
        dueSweeper(x, 0, 0, 5, 40, 0, 0, 0, 0);
        dueCrossing(x, 0, 4, 2, 10, -1, 1, 0);
        x.come(0, 3);
        x.pass(1);
        due("send(1, 1) leaves the other one's pitch", x.send(1, 1), 1);
        dueCrossing(x, 0, 6, 2, 10, 0, 1, 0);
        for (int s : new int[] {-1, 2, 8, LOW, HIGH}) {
            fails(x, "send(" + s + ", 0)", INDEX, () -> x.send(s, 0));
        }
        for (int c : new int[] {-1, 9, LOW, HIGH}) {
            fails(x, "send(0, " + c + ")", INDEX, () -> x.send(0, c));
        }
    }

    private static void promise7Buy() {
        MudSweepers x = stillCity(8);
        x.come(4, 5);
        fails(x, "buy(0) with nothing", STATE, () -> x.buy(0));
        x.pass(2);
        dueSweeper(x, 0, 4, 5, 39, 4, 1, 0, 0, 9);
        fails(x, "buy(0) with 4 pence", STATE, () -> x.buy(0));
        x.set(4, 0, 2);
        x.pass(1);
        due("buy(0) with 5 pence", x.buy(0), 0);
        dueSweeper(x, 0, 4, 5, 40, 0, 1, 0, 0, 10);
        x.set(4, 0, 30);
        x.pass(1);
        due("buy(0)", x.buy(0), 10);
        due("buy(0) with a new broom", x.buy(0), 5);
        dueSweeper(x, 0, 4, 5, 40, 5);
        dueCrossing(x, 4, 0, 0, 30, 0, 1, 20);
        for (int s : new int[] {-1, 1, 8, LOW, HIGH}) {
            fails(x, "buy(" + s + ")", INDEX, () -> x.buy(s));
        }
    }

    private static void promise8Sweeper() {
        MudSweepers x = new MudSweepers();
        x.come(4, 5);
        x.come(4, 7);
        x.pass(1);
        dueSweeper(x, 0, 4, 5, 40, 0, 0, 0, 1, 10);
        dueSweeper(x, 1, 4, 7, 40, 0, 1, 0, 0, 12);
        x.pass(1);
        dueSweeper(x, 0, 3, 5, 40, 0, 0, 0, 1, 10);
        dueSweeper(x, 1, 4, 7, 39, 5, 1, 4, 0, 11);
        for (int s : new int[] {-1, 2, 8, LOW, HIGH}) {
            fails(x, "sweeper(" + s + ", 0)", INDEX, () -> x.sweeper(s, 0));
        }
        for (int w : new int[] {-1, 8, LOW, HIGH}) {
            fails(x, "sweeper(0, " + w + ")", INDEX, () -> x.sweeper(0, w));
        }
    }

    private static void promise9Crossing() {
        MudSweepers x = new MudSweepers();
        x.come(4, 5);
        x.come(4, 7);
        x.set(4, 3, 21);
        x.pass(2);
        dueCrossing(x, 4, 0, 3, 21, 1, 1, 10);
        dueCrossing(x, 3, 4, 2, 10, -1, 1, 0);
        x.buy(1);
        x.send(1, 3);
        dueCrossing(x, 4, 0, 3, 21, -1, 0, 10);
        dueCrossing(x, 3, 4, 2, 10, -1, 2, 0);
        for (int c : new int[] {-1, 9, LOW, HIGH}) {
            fails(x, "crossing(" + c + ", 0)", INDEX, () -> x.crossing(c, 0));
        }
        for (int w : new int[] {-1, 6, LOW, HIGH}) {
            fails(x, "crossing(0, " + w + ")", INDEX, () -> x.crossing(0, w));
        }
    }

    private static void promise10Count() {
        MudSweepers x = new MudSweepers();
        x.come(4, 5);
        x.come(4, 7);
        x.come(0, 1);
        x.pass(2);
        dueCity(x, 2, 3, 2, 28, 10, 9, 8, 1);
        x.spill(0, 5);
        x.spill(1, 1);
        x.spill(2, 2);
        dueCity(x, 2, 3, 2, 36, 10, 8, 8, 1);
        x.buy(1);
        x.send(2, 8);
        dueCity(x, 2, 3, 1, 36, 5, 8, 8, 1);
        for (int w : new int[] {-1, 8, LOW, HIGH}) {
            fails(x, "count(" + w + ")", INDEX, () -> x.count(w));
        }
    }

    private static void promise11MudAndRain() {
        MudSweepers x = stillCity(10);
        x.set(0, 9, 10);
        x.set(1, 2, 10);
        x.spill(0, 40);
        x.setRain(1, 9);
        x.setRain(7, 3);
        due("pass(1)", x.pass(1), 0);
        dueCrossing(x, 0, 49);
        dueCrossing(x, 1, 2);
        dueCrossing(x, 2, 0);
        x.pass(1);
        dueCrossing(x, 0, 50);
        dueCrossing(x, 1, 13);
        dueCrossing(x, 2, 9);
        x.pass(5);
        dueCrossing(x, 2, 9);
        x.pass(1);
        dueCrossing(x, 2, 12);
        x.pass(1);
        dueCrossing(x, 2, 12);
        x.pass(1);
        dueCrossing(x, 2, 21);
        dueCity(x, 10);
    }

    private static void promise11Sweeping() {
        MudSweepers x = stillCity(10);
        x.come(4, 3);
        x.spill(4, 50);
        x.setRain(1, 5);
        x.setRain(2, 6);
        x.setRain(0, 9);
        x.pass(1);
        dueSweeper(x, 0, 4, 3, 40, 0, 1, 0, 0, 8);
        x.spill(4, 50);
        x.pass(1);
        dueSweeper(x, 0, 4, 3, 39, 0, 1, 8, 0, 7);
        dueCrossing(x, 4, 42);
        x.pass(1);
        dueSweeper(x, 0, 4, 3, 39, 0, 1, 8, 0, 7);
        dueCrossing(x, 4, 48);
        MudSweepers y = stillCity(10);
        y.come(0, 1);
        y.pass(41);
        dueSweeper(y, 0, 0, 1, 0, 200, 1, 0, 0, 1);
        y.spill(0, 3);
        y.pass(2);
        dueSweeper(y, 0, 0, 1, 0, 210, 1, 2, 0, 1);
        dueCrossing(y, 0, 1);
    }

    private static void promise11Paying() {
        MudSweepers x = stillCity(19);
        x.come(4, 1);
        due("pass(1) before there is a holder", x.pass(1), 0);
        x.spill(4, 11);
        due("pass(1) with a mud of 5", x.pass(1), 9);
        x.spill(4, 6);
        due("pass(1) with a mud of 6", x.pass(1), 3);
        x.spill(4, 14);
        due("pass(1) with a mud of 15", x.pass(1), 3);
        x.spill(4, 6);
        due("pass(1) with a mud of 16", x.pass(1), 0);
        dueCrossing(x, 4, 16, 0, 19, 0, 1, 15);
        dueSweeper(x, 0, 4, 1, 36, 15, 1, 21);
        x.setRain(5, 5);
        x.setRain(6, 6);
        due("pass(1) with a rain of 5", x.pass(1), 0);
        MudSweepers y = stillCity(20);
        y.come(4, 9);
        y.setRain(1, 5);
        y.setRain(2, 6);
        y.pass(1);
        due("pass(1) with a rain of 5", y.pass(1), 10);
        due("pass(1) with a rain of 6", y.pass(1), 0);
        y.set(4, 0, 30);
        y.spill(4, 24);
        due("pass(1) with 30 walkers and a mud of 17", y.pass(1), 0);
        due("pass(1) with 30 walkers and a mud of 4", y.pass(1), 15);
        y.spill(4, 20);
        due("pass(1) with 30 walkers and a mud of 11", y.pass(1), 6);
    }

    private static void promise11Pitches() {
        MudSweepers x = stillCity(10);
        x.setRain(0, 9);
        x.come(4, 5);
        x.come(4, 5);
        x.pass(1);
        dueSweeper(x, 0, 4, 5, 40, 0, 1, 0, 0);
        dueSweeper(x, 1, 3, 5, 40, 0, 0, 0, 0);
        x.pass(1);
        dueSweeper(x, 1, 3, 5, 40, 0, 1, 0, 0);
        x.come(4, 6);
        x.pass(1);
        dueSweeper(x, 0, 4, 5, 38, 10, 0, 9, 1);
        dueSweeper(x, 2, 4, 6, 40, 0, 1, 0, 0);
        x.pass(1);
        dueSweeper(x, 0, 3, 5, 38, 10, 0, 9, 1);
        x.send(0, 3);
        x.send(1, 3);
        x.pass(1);
        dueSweeper(x, 0, 3, 5, 38, 10, 1, 9, 1);
        dueSweeper(x, 1, 4, 5, 38, 10, 0, 9, 0);
        drivenOffGoesOnAtOnce();
    }

    private static void drivenOffGoesOnAtOnce() {
        MudSweepers x = stillCity(10);
        x.come(0, 6);
        x.come(4, 5);
        x.pass(1);
        x.send(0, 4);
        x.pass(1);
        dueSweeper(x, 0, 4, 6, 40, 0, 1, 0, 0);
        dueSweeper(x, 1, 3, 5, 39, 5, 0, 0, 1);
        dueCity(x, 2, 2, 1, 0, 5, 9, 0, 1);
    }

    private static void promise11Neighbours() {
        int[] even = {1, 0, 1, 4, 3, 4, 7, 6, 7};
        for (int c = 0; c < 9; c++) {
            goesOn(stillCity(10), c, even[c]);
            goesOn(stillCity(0), c, even[c]);
        }
        int[][] neighbours = {{1, 3}, {0, 2, 4}, {1, 5}, {4, 0, 6}, {3, 5, 1, 7}, {4, 2, 8}, {7, 3}, {6, 8, 4}, {7, 5}};
        for (int c = 0; c < 9; c++) {
            for (int n : neighbours[c]) {
                MudSweepers x = stillCity(10);
                x.set(n, 0, 11);
                goesOn(x, c, n);
            }
        }
        MudSweepers x = stillCity(10);
        x.set(3, 0, 9);
        goesOn(x, 4, 5);
        MudSweepers y = stillCity(10);
        y.set(3, 0, 9);
        y.set(5, 0, 9);
        goesOn(y, 4, 1);
        MudSweepers z = stillCity(10);
        z.set(2, 0, 30);
        z.set(6, 0, 30);
        z.set(0, 0, 30);
        z.set(4, 0, 30);
        goesOn(z, 4, 3);
    }

    private static void goesOn(MudSweepers x, int from, int to) {
        x.come(from, 5);
        x.come(from, 5);
        x.pass(1);
        due("going on from " + from + " leads to", x.sweeper(1, 0), to);
    }

    private static void promise11Pass() {
        MudSweepers x = stillCity(10);
        x.come(0, 9);
        x.come(8, 9);
        due("pass(96)", x.pass(96), 950);
        dueCity(x, 96, 2, 2, 0, 950);
        due("pass(1)", x.pass(1), 10);
        for (int q : new int[] {0, -1, 97, LOW, HIGH}) {
            fails(x, "pass(" + q + ")", ARGUMENT, () -> x.pass(q));
        }
    }

    private static void promise12Way() {
        MudSweepers x = new MudSweepers();
        due("way(0, 8) over no mud", x.way(0, 8), 0);
        for (int c = 0; c < 9; c++) {
            x.spill(c, 1);
        }
        due("way(0, 8)", x.way(0, 8), 5);
        due("way(0, 0)", x.way(0, 0), 1);
        due("way(4, 5)", x.way(4, 5), 2);
        due("way(2, 3) over the ends of rows", x.way(2, 3), 4);
        x.spill(1, 49);
        due("way(0, 2) round 1", x.way(0, 2), 5);
        x.spill(4, 49);
        due("way(0, 2) round 1 and 4", x.way(0, 2), 7);
        due("way(2, 0) round 1 and 4", x.way(2, 0), 7);
        due("way(1, 4)", x.way(1, 4), 100);
        due("way(1, 1)", x.way(1, 1), 50);
        x.spill(5, 40);
        due("way(0, 2) round 1 and 4 is 46, straight on 52", x.way(0, 2), 47);
        x.spill(8, 10);
        due("way(0, 2) straight on", x.way(0, 2), 52);
        MudSweepers y = new MudSweepers();
        for (int c = 0; c < 9; c++) {
            y.spill(c, 50);
        }
        due("way(6, 2) through the most mud", y.way(6, 2), 250);
        for (int c : new int[] {-1, 9, LOW, HIGH}) {
            fails(x, "way(" + c + ", 0)", INDEX, () -> x.way(c, 0));
            fails(x, "way(0, " + c + ")", INDEX, () -> x.way(0, c));
        }
    }

    private static void promise13Earns() {
        MudSweepers x = stillCity(10);
        x.come(4, 5);
        x.come(4, 5);
        x.pass(2);
        long before = x.digest();
        due("earns(0, 1)", x.earns(0, 1), 5);
        due("earns(1, 1)", x.earns(1, 1), 5);
        due("earns(0, 96)", x.earns(0, 96), 480);
        due("earns(0, 96) again", x.earns(0, 96), 480);
        due("digest() after earns", x.digest() == before ? 1 : 0, 1);
        x.come(4, 1);
        due("earns(2, 2)", x.earns(2, 2), 0);
        due("earns(2, 3)", x.earns(2, 3), 0);
        for (int s : new int[] {-1, 3, 8, LOW, HIGH}) {
            fails(x, "earns(" + s + ", 1)", INDEX, () -> x.earns(s, 1));
            fails(x, "earns(" + s + ", 0)", INDEX, () -> x.earns(s, 0));
        }
        for (int q : new int[] {0, -1, 97, LOW, HIGH}) {
            fails(x, "earns(0, " + q + ")", ARGUMENT, () -> x.earns(0, q));
        }
    }

    private static void promise14Advise() {
        MudSweepers x = stillCity(10);
        x.come(4, 5);
        due("advise(0, 10) where all is the same", x.advise(0, 10), -1);
        x.set(7, 0, 12);
        long before = x.digest();
        due("advise(0, 10)", x.advise(0, 10), 7);
        x.set(3, 0, 13);
        due("advise(0, 10), of several the smallest", x.advise(0, 10), 3);
        due("advise(0, 1) earns nothing anywhere", x.advise(0, 1), -1);
        x.set(0, 0, 13);
        due("advise(0, 10), crossing 0", x.advise(0, 10), 0);
        x.set(0, 0, 10);
        x.set(3, 0, 10);
        due("digest() after advise", x.digest() == before ? 1 : 0, 1);
        x.pass(1);
        due("advise(0, 6), where going costs as much as it brings", x.advise(0, 6), -1);
        due("advise(0, 7), where going brings more", x.advise(0, 7), 7);
        adviseTheOwnCrossing();
        for (int s : new int[] {-1, 1, 8, LOW, HIGH}) {
            fails(x, "advise(" + s + ", 1)", INDEX, () -> x.advise(s, 1));
            fails(x, "advise(" + s + ", 0)", INDEX, () -> x.advise(s, 0));
        }
        for (int q : new int[] {0, -1, 97, LOW, HIGH}) {
            fails(x, "advise(0, " + q + ")", ARGUMENT, () -> x.advise(0, q));
        }
    }

    /** A rare city, found by search, where a holder earns more after being sent to the own crossing. */
    private static void adviseTheOwnCrossing() {
        MudSweepers x = new MudSweepers();
        int[][] comers = {{0, 3}, {2, 2}, {1, 2}, {0, 2}, {0, 1}, {8, 5}, {6, 4}};
        for (int[] comer : comers) {
            x.come(comer[0], comer[1]);
        }
        x.set(2, 3, 28);
        x.set(6, 3, 6);
        x.pass(1);
        x.send(1, 4);
        x.send(4, 2);
        x.send(0, 1);
        x.spill(2, 47);
        x.spill(0, 34);
        dueSweeper(x, 2, 1, 2, 40, 0, 1);
        due("advise(2, 29) to the own crossing", x.advise(2, 29), 1);
        int unsent = x.earns(2, 29);
        x.send(2, 1);
        due("what is earned is more", x.earns(2, 29) > unsent ? 1 : 0, 1);
    }

    private static void promise15Foresee() {
        MudSweepers x = new MudSweepers();
        x.come(4, 5);
        x.come(4, 5);
        x.pass(1);
        long before = x.digest();
        due("foresee(1, 0)", x.foresee(1, 0), 5);
        due("foresee(1, 1)", x.foresee(1, 1), 32);
        due("foresee(1, 2)", x.foresee(1, 2), 2);
        due("foresee(2, 0)", x.foresee(2, 0), 15);
        due("foresee(2, 1)", x.foresee(2, 1), 42);
        due("digest() after foresee", x.digest() == before ? 1 : 0, 1);
        due("foresee(96, 2)", x.foresee(96, 2), 2);
        for (int q : new int[] {0, -1, 97, LOW, HIGH}) {
            fails(x, "foresee(" + q + ", 0)", ARGUMENT, () -> x.foresee(q, 0));
            fails(x, "foresee(" + q + ", 3)", ARGUMENT, () -> x.foresee(q, 3));
        }
        for (int w : new int[] {-1, 3, LOW, HIGH}) {
            fails(x, "foresee(1, " + w + ")", INDEX, () -> x.foresee(1, w));
        }
    }

    private static void promise16Mean() {
        MudSweepers x = new MudSweepers();
        due("mean()", x.mean(), 0.0);
        x.spill(3, 4);
        due("mean()", x.mean(), 4.0 / 9.0);
        x.spill(0, 5);
        due("mean()", x.mean(), 1.0);
        for (int c = 0; c < 9; c++) {
            x.spill(c, 50);
        }
        due("mean()", x.mean(), 50.0);
    }

    private static void promise17Digest() {
        MudSweepers x = new MudSweepers();
        dueDigest(x, new int[8]);
        x.setRain(2, 9);
        x.setRain(7, 1);
        int[] rain = {0, 0, 9, 0, 0, 0, 0, 1};
        dueDigest(x, rain);
        x.come(4, 5);
        x.come(4, 6);
        x.set(3, 9, 29);
        x.pass(50);
        dueDigest(x, rain);
        for (int i = 0; i < 6; i++) {
            x.come(i, 9 - i);
        }
        x.pass(3);
        x.buy(1);
        dueDigest(x, rain);
    }

    private static void dueDigest(MudSweepers x, int[] rain) {
        long d = 1033;
        for (int what = 0; what < 8; what++) {
            d = d * 31 + x.count(what);
        }
        for (int i = 0; i < 54; i++) {
            d = d * 31 + x.crossing(i / 6, i % 6);
        }
        for (int r : rain) {
            d = d * 31 + r;
        }
        for (int i = 0; i < 8 * x.count(1); i++) {
            d = d * 31 + x.sweeper(i / 8, i % 8);
        }
        due("digest()", x.digest() == d ? 1 : 0, 1);
    }
}
