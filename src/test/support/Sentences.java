/** What the tests by sentence share: each test bears the sentence of the document that it holds the class to. */
abstract class Sentences {
    static final String INDEX = "IndexOutOfBoundsException";
    static final String ARGUMENT = "IllegalArgumentException";
    static final String STATE = "IllegalStateException";
    static final String NOTHING = "nothing";
    private static int ran = 0;
    private static int missed = 0;
    private static boolean good = true;

    interface Maker {
        MudSweepers make();
    }

    interface Ask {
        double of(MudSweepers x);
    }

    interface AskWith {
        double of(MudSweepers x, int value);
    }

    /** Runs one test; an exception out of it counts as missed too, so that the other tests still run. */
    static void holds(String sentence, Runnable test) {
        good = true;
        try {
            test.run();
        } catch (RuntimeException e) {
            wrong("the test ended with " + e);
        }
        ran++;
        if (!good) {
            missed++;
            System.out.println("MISSED: " + sentence);
        }
    }

    static void end() {
        System.out.println(ran + " sentences, " + missed + " missed");
        if (missed != 0 || ran == 0) {
            System.exit(1);
        }
    }

    static void wrong(String what) {
        good = false;
        System.out.println("    " + what);
    }

    static void due(String what, double got, double want) {
        if (got != want) {
            wrong(what + " answered " + got + ", due is " + want);
        }
    }

    static void dueLong(String what, long got, long want) {
        if (got != want) {
            wrong(what + " answered " + got + ", due is " + want);
        }
    }

    static void dueException(MudSweepers x, String what, String want, Ask ask) {
        String got = NOTHING;
        try {
            ask.of(x);
        } catch (RuntimeException e) {
            got = e.getClass().getSimpleName();
        }
        if (!got.equals(want)) {
            wrong(what + " throws " + got + ", due is " + want);
        }
    }

    /** The call throws just this, and the object then tells and does what one tells and does that was never asked. */
    static void refused(Maker maker, String what, String want, Ask ask) {
        MudSweepers x = maker.make();
        dueException(x, what, want, ask);
        same("after " + what, x, maker.make());
    }

    static void refusedAll(Maker maker, String what, int[] values, String want, AskWith ask) {
        for (int value : values) {
            refused(maker, what + " with " + value, want, x -> ask.of(x, value));
        }
    }

    /** The call is answered, and the object then tells and does what one tells and does that was never asked. */
    static void changesNothing(Maker maker, String what, Ask ask) {
        refused(maker, what, NOTHING, ask);
    }

    static void same(String what, MudSweepers got, MudSweepers want) {
        sameFacts(what, told(got), told(want));
        due("pass(9) " + what, got.pass(9), want.pass(9));
        sameFacts("pass(9) " + what, told(got), told(want));
    }

    private static void sameFacts(String what, long[] got, long[] want) {
        for (int i = 0; i < want.length; i++) {
            dueLong("fact " + i + " " + what, got[i], want[i]);
        }
    }

    /** All that an object tells of itself, in the order of the digest, and the digest. */
    static long[] told(MudSweepers x) {
        long[] facts = new long[135];
        int n = 0;
        for (int what = 0; what < 8; what++) {
            facts[n++] = x.count(what);
        }
        for (int i = 0; i < 54; i++) {
            facts[n++] = x.crossing(i / 6, i % 6);
        }
        for (int q = 0; q < 8; q++) {
            facts[n] = x.setRain(q, 0);
            x.setRain(q, (int) facts[n++]);
        }
        int ofSweepers = 8 * (int) facts[1];
        for (int i = 0; i < ofSweepers; i++) {
            facts[n++] = x.sweeper(i / 8, i % 8);
        }
        facts[134] = x.digest();
        return facts;
    }

    /** Wrong values of a range: the first ones beyond both ends, and some far away. */
    static int[] outside(int least, int most) {
        return new int[] {least - 1, most + 1, least - 256, most + 256, Integer.MIN_VALUE, Integer.MAX_VALUE};
    }

    /** In it no mud comes by itself, and each crossing has as many walkers. */
    static MudSweepers stillCity(int walkers) {
        MudSweepers x = new MudSweepers();
        for (int c = 0; c < 9; c++) {
            x.set(c, 0, walkers);
        }
        return x;
    }

    /** A still city in the quarter 1, in which the sweeper 0 holds the pitch of crossing 4, the only one with walkers. */
    static MudSweepers pitchCity(int strength, int walkers) {
        MudSweepers x = stillCity(0);
        x.set(4, 0, walkers);
        x.come(4, strength);
        x.pass(1);
        return x;
    }

    /** Four sweepers with and without a pitch, with pence and worn brooms, one driven off; mud, and rain still to come. */
    static MudSweepers busyCity() {
        MudSweepers x = new MudSweepers();
        x.come(4, 5);
        x.come(4, 7);
        x.come(0, 2);
        x.come(8, 9);
        x.set(8, 9, 30);
        x.set(3, 0, 9);
        x.setRain(2, 7);
        x.setRain(6, 3);
        x.setRain(7, 9);
        x.spill(2, 20);
        x.pass(5);
        x.send(2, 4);
        return x;
    }

    static MudSweepers fullCity() {
        MudSweepers x = busyCity();
        for (int i = 4; i < 8; i++) {
            x.come(i, i);
        }
        return x;
    }
}
