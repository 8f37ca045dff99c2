/** The sentences under "Terms" that name a boundary case, each with a test of its own; due answers are worked out by hand. */
public final class TermsBoundariesTest extends Sentences {
    private static final int[][] NEIGHBOURS =
        {{1, 3}, {0, 2, 4}, {1, 5}, {4, 0, 6}, {3, 5, 1, 7}, {4, 2, 8}, {7, 3}, {6, 8, 4}, {7, 5}};

    public static void main(String[] args) {
        numbersAndTime();
        crossings();
        waysBetweenCrossings();
        rain();
        sweepers();
        pitches();
        mudComes();
        mudIsSwept();
        broomsWear();
        payByRain();
        payByMud();
        pitchesAreTaken();
        pitchesAreKept();
        turnsGoByNumbers();
        goingOn();
        goingOnOfSeveral();
        stepsInTheirOrder();
        calls();
        end();
    }

    private static void numbersAndTime() {
        holds("/ is cut towards 0 (walkers / 2)", () -> {
            for (int w = 0; w <= 30; w++) {
                due("pay of " + w + " walkers over clean mud", pitchCity(1, w).pass(1), w >> 1);
            }
        });
        holds("/ is cut towards 0 (walkers / 5)", () -> {
            int[] fifth = {0, 0, 0, 0, 0, 1, 1, 1, 1, 1, 2, 2, 2, 2, 2, 3, 3, 3, 3, 3, 4, 4, 4, 4, 4, 5, 5, 5, 5, 5, 6};
            for (int w = 0; w <= 30; w++) {
                MudSweepers x = pitchCity(1, w);
                x.spill(4, 16);
                due("pay of " + w + " walkers over a mud of 10", x.pass(1), fifth[w]);
            }
        });
        holds("/ is cut towards 0 (broom / 8)", () -> {
            MudSweepers x = pitchCity(1, 0);
            int swept = 0;
            for (int broom = 40; broom >= 0; broom--) {
                due("the broom", x.sweeper(0, 2), broom);
                due("reach with a broom of " + broom, x.sweeper(0, 7), 1 + (broom >> 3));
                x.spill(4, 50);
                x.pass(1);
                swept += 1 + (broom >> 3);
                due("swept with a broom of " + broom, x.sweeper(0, 5), swept);
            }
        });
        holds("Time is told in quarters of an hour, from 0", () -> {
            MudSweepers x = new MudSweepers();
            due("count(0)", x.count(0), 0);
        });
        holds("The quarter is 1 greater", () -> {
            MudSweepers x = new MudSweepers();
            for (int q = 1; q <= 20; q++) {
                x.pass(1);
                due("count(0)", x.count(0), q);
            }
            x.pass(96);
            due("count(0)", x.count(0), 116);
        });
    }

    private static void crossings() {
        holds("There are 9, numbered 0 to 8", () -> {
            MudSweepers x = new MudSweepers();
            for (int c = 0; c < 9; c++) {
                due("spill(" + c + ", " + (c + 1) + ")", x.spill(c, c + 1), c + 1);
            }
            for (int c = 0; c < 9; c++) {
                due("crossing(" + c + ", 0)", x.crossing(c, 0), c + 1);
            }
            due("all mud", x.count(3), 45);
        });
        holds("mud, 0 to 50 (0, at first)", () -> dueAtFirst(0, 0));
        holds("carriages, 0 to 9 (2, at first)", () -> dueAtFirst(1, 2));
        holds("walkers, 0 to 30 (10, at first)", () -> dueAtFirst(2, 10));
        holds("a holder of its pitch or none (at first)", () -> dueAtFirst(3, -1));
        holds("mud, 0 to 50: 50 is allowed and never passed, by any crossing", () -> {
            MudSweepers x = new MudSweepers();
            for (int c = 0; c < 9; c++) {
                x.set(c, 9, 0);
                due("spill(" + c + ", 50)", x.spill(c, 50), 50);
            }
            x.setRain(0, 9);
            x.pass(1);
            for (int c = 0; c < 9; c++) {
                due("crossing(" + c + ", 0)", x.crossing(c, 0), 50);
            }
            due("all mud", x.count(3), 450);
        });
        holds("mud, 0 to 50: it is never less than 0", () -> {
            MudSweepers x = pitchCity(9, 0);
            x.pass(3);
            due("crossing(4, 0)", x.crossing(4, 0), 0);
            due("all mud", x.count(3), 0);
        });
        holds("carriages, 0 to 9: 0 bring no mud, 9 bring 9", () -> {
            MudSweepers x = new MudSweepers();
            x.set(0, 0, 10);
            x.set(8, 9, 10);
            x.pass(2);
            due("crossing(0, 0)", x.crossing(0, 0), 0);
            due("crossing(8, 0)", x.crossing(8, 0), 18);
        });
        holds("walkers, 0 to 30: 0 pay nothing, 30 pay 15", () -> {
            due("pay of 0 walkers", pitchCity(9, 0).pass(5), 0);
            due("pay of 30 walkers", pitchCity(9, 30).pass(5), 75);
        });
    }

    private static void dueAtFirst(int what, int want) {
        MudSweepers x = new MudSweepers();
        for (int c = 0; c < 9; c++) {
            due("crossing(" + c + ", " + what + ")", x.crossing(c, what), want);
        }
    }

    private static boolean isNeighbour(int c, int n) {
        for (int neighbour : NEIGHBOURS[c]) {
            if (neighbour == n) {
                return true;
            }
        }
        return false;
    }

    private static void waysBetweenCrossings() {
        holds("in 3 rows of 3; neighbours are those to the left, to the right, above and below (on a way)", () -> {
            for (int c = 0; c < 9; c++) {
                for (int n = 0; n < 9; n++) {
                    if (n != c) {
                        MudSweepers x = new MudSweepers();
                        for (int other = 0; other < 9; other++) {
                            x.spill(other, other == c || other == n ? 1 : 50);
                        }
                        due(c + " beside " + n, x.way(c, n) == 2 ? 1 : 0, isNeighbour(c, n) ? 1 : 0);
                    }
                }
            }
        });
        holds("in 3 rows of 3; neighbours are those to the left, to the right, above and below (going on)", () -> {
            for (int c = 0; c < 9; c++) {
                for (int n : NEIGHBOURS[c]) {
                    MudSweepers x = stillCity(10);
                    x.set(n, 0, 11);
                    dueGoesOn(x, c, n);
                }
            }
        });
        holds("neighbours, as far as there are such: no other crossing is gone on to, whatever its walkers", () -> {
            for (int c = 0; c < 9; c++) {
                MudSweepers x = stillCity(30);
                for (int n : NEIGHBOURS[c]) {
                    x.set(n, 0, 0);
                }
                dueGoesOn(x, c, NEIGHBOURS[c][0]);
            }
        });
    }

    private static void rain() {
        holds("rain, 0 to 9 (0, at first)", () -> {
            MudSweepers x = stillCity(10);
            x.pass(16);
            due("all mud", x.count(3), 0);
            for (int q = 0; q < 8; q++) {
                due("setRain(" + q + ", 9)", x.setRain(q, 9), 0);
                due("setRain(" + q + ", 0)", x.setRain(q, 0), 9);
            }
        });
        holds("A table tells for each of 8 quarters (the quarter by the remainder of 8) rain", () -> {
            for (int q = 0; q < 8; q++) {
                MudSweepers x = stillCity(10);
                x.setRain(q, 1);
                int want = 0;
                for (int t = 0; t < 24; t++) {
                    want += t == q || t == q + 8 || t == q + 16 ? 1 : 0;
                    x.pass(1);
                    due("mud after the quarter " + t + " with rain in " + q, x.crossing(0, 0), want);
                }
            }
        });
        holds("the quarter by the remainder of 8 (in foreseen quarters too)", () -> {
            MudSweepers x = stillCity(10);
            x.come(0, 9);
            x.pass(7);
            x.setRain(0, 9);
            due("foresee(1, 1) in the quarter 7", x.foresee(1, 1), 0);
            due("foresee(2, 1) in the quarter 7", x.foresee(2, 1), 81);
            due("earns(0, 2) in the quarter 7", x.earns(0, 2), 5);
            x.pass(1);
            due("foresee(1, 1) in the quarter 8", x.foresee(1, 1), 81);
            x.pass(1);
            due("foresee(7, 1) in the quarter 9", x.foresee(7, 1), 72);
            due("foresee(8, 1) in the quarter 9", x.foresee(8, 1), 153);
        });
        holds("the quarter by the remainder of 8 (far from 0)", () -> {
            MudSweepers x = stillCity(10);
            x.setRain(7, 1);
            x.pass(96);
            x.pass(96);
            due("crossing(0, 0) in the quarter 192", x.crossing(0, 0), 24);
            x.pass(7);
            due("crossing(0, 0) in the quarter 199", x.crossing(0, 0), 24);
            x.pass(1);
            due("crossing(0, 0) in the quarter 200", x.crossing(0, 0), 25);
        });
    }

    private static void sweepers() {
        holds("There are at most 8, numbered from 0 in the order of their coming", () -> {
            MudSweepers x = new MudSweepers();
            for (int i = 0; i < 8; i++) {
                due("come", x.come(8 - i, i + 1), i);
            }
            for (int i = 0; i < 8; i++) {
                due("sweeper(" + i + ", 0)", x.sweeper(i, 0), 8 - i);
                due("sweeper(" + i + ", 1)", x.sweeper(i, 1), i + 1);
            }
            dueException(x, "the ninth come", STATE, y -> y.come(0, 1));
            due("count(1)", x.count(1), 8);
        });
        holds("strength, 1 to 9: the least and the most sweep as much as they are strong", () -> {
            dueSweeps(1, 6);
            dueSweeps(9, 14);
        });
        holds("a broom, 0 to 40 (40, at first)", () -> {
            MudSweepers x = new MudSweepers();
            x.come(4, 1);
            due("sweeper(0, 2)", x.sweeper(0, 2), 40);
            x.pass(1);
            due("sweeper(0, 2) before it is used", x.sweeper(0, 2), 40);
        });
        holds("pence (0, at first)", () -> {
            MudSweepers x = new MudSweepers();
            x.come(4, 1);
            due("sweeper(0, 3)", x.sweeper(0, 3), 0);
            due("count(4)", x.count(4), 0);
        });
        holds("all 8 of a full city take part in a quarter", () -> {
            MudSweepers x = stillCity(10);
            for (int i = 0; i < 8; i++) {
                x.come(i, 1);
            }
            x.pass(1);
            due("pitches", x.count(2), 8);
            due("pass(1)", x.pass(1), 40);
            for (int i = 0; i < 8; i++) {
                due("sweeper(" + i + ", 2)", x.sweeper(i, 2), 39);
                due("sweeper(" + i + ", 3)", x.sweeper(i, 3), 5);
                due("sweeper(" + i + ", 4)", x.sweeper(i, 4), 1);
            }
        });
        holds("a city without sweepers lives on as well", () -> {
            MudSweepers x = new MudSweepers();
            due("pass(96)", x.pass(96), 0);
            due("pitches", x.count(2), 0);
            due("all mud", x.count(3), 450);
            due("quarter", x.count(0), 96);
        });
    }

    private static void dueSweeps(int strength, int want) {
        MudSweepers x = pitchCity(strength, 0);
        due("reach with a strength of " + strength, x.sweeper(0, 7), want);
        x.spill(4, 50);
        x.pass(1);
        due("swept with a strength of " + strength, x.sweeper(0, 5), want);
        due("mud left by a strength of " + strength, x.crossing(4, 0), 50 - want);
    }

    private static void pitches() {
        holds("one who holds a pitch is at its crossing", () -> {
            MudSweepers x = fullCity();
            for (int t = 0; t < 6; t++) {
                int held = 0;
                for (int c = 0; c < 9; c++) {
                    int holder = x.crossing(c, 3);
                    if (holder >= 0) {
                        held++;
                        due("the place of the holder of " + c, x.sweeper(holder, 0), c);
                        due("the pitch of the holder of " + c, x.sweeper(holder, 4), 1);
                    }
                }
                due("count(2)", x.count(2), held);
                for (int s = 0; s < 8; s++) {
                    held -= x.sweeper(s, 4);
                }
                due("holders who are not asked by a crossing", held, 0);
                x.pass(1);
            }
        });
        holds("a crossing has one holder alone, of several who are there", () -> {
            MudSweepers x = pitchCity(5, 0);
            x.come(4, 5);
            x.come(4, 5);
            due("sweeper(0, 4)", x.sweeper(0, 4), 1);
            due("sweeper(1, 4)", x.sweeper(1, 4), 0);
            due("sweeper(2, 4)", x.sweeper(2, 4), 0);
            due("crossing(4, 3)", x.crossing(4, 3), 0);
            due("crossing(4, 4)", x.crossing(4, 4), 3);
            due("count(2)", x.count(2), 1);
        });
    }

    private static int mudAfter(int mud, int carriages, int rain) {
        MudSweepers x = new MudSweepers();
        x.set(4, carriages, 10);
        x.setRain(0, rain);
        if (mud > 0) {
            x.spill(4, mud);
        }
        x.pass(1);
        return x.crossing(4, 0);
    }

    private static void mudComes() {
        holds("1. Each crossing has as much mud more as carriages and rain, added", () -> {
            due("mud of 0 carriages and no rain", mudAfter(7, 0, 0), 7);
            due("mud of 9 carriages and no rain", mudAfter(7, 9, 0), 16);
            due("mud of 0 carriages and a rain of 9", mudAfter(7, 0, 9), 16);
            due("mud of 9 carriages and a rain of 9", mudAfter(7, 9, 9), 25);
            due("mud of 1 carriage and a rain of 1", mudAfter(0, 1, 1), 2);
        });
        holds("1. (at most 50)", () -> {
            due("31 and 18", mudAfter(31, 9, 9), 49);
            due("32 and 18", mudAfter(32, 9, 9), 50);
            due("33 and 18", mudAfter(33, 9, 9), 50);
            due("50 and 18", mudAfter(50, 9, 9), 50);
            due("48 and 1", mudAfter(48, 1, 0), 49);
            due("49 and 1", mudAfter(49, 1, 0), 50);
            due("49 and 2", mudAfter(49, 1, 1), 50);
            due("50 and 0", mudAfter(50, 0, 0), 50);
            due("50 and 1", mudAfter(50, 0, 1), 50);
        });
        holds("1. (at most 50, before it is swept)", () -> {
            MudSweepers x = pitchCity(1, 0);
            x.set(4, 9, 0);
            x.spill(4, 50);
            x.pass(1);
            due("crossing(4, 0)", x.crossing(4, 0), 44);
        });
        holds("1. each crossing, by its own carriages, held or not, in heavy rain too", () -> {
            MudSweepers x = pitchCity(1, 0);
            for (int c = 0; c < 9; c++) {
                x.set(c, c, 0);
            }
            x.setRain(1, 6);
            x.pass(1);
            for (int c = 0; c < 9; c++) {
                due("crossing(" + c + ", 0)", x.crossing(c, 0), c + 6);
            }
        });
    }

    private static MudSweepers muddyPitch(int mud, int rain) {
        MudSweepers x = pitchCity(1, 20);
        x.setRain(1, rain);
        if (mud > 0) {
            x.spill(4, mud);
        }
        x.pass(1);
        return x;
    }

    private static void mudIsSwept() {
        holds("2. With a rain of less than 6 (5 and less: it is swept)", () -> {
            for (int rain = 0; rain <= 5; rain++) {
                MudSweepers x = muddyPitch(30, rain);
                due("swept in a rain of " + rain, x.sweeper(0, 5), 6);
                due("mud in a rain of " + rain, x.crossing(4, 0), 24 + rain);
                due("broom in a rain of " + rain, x.sweeper(0, 2), 39);
            }
        });
        holds("2. With a rain of less than 6 (6 and more: nobody sweeps, and no broom is worn)", () -> {
            for (int rain = 6; rain <= 9; rain++) {
                MudSweepers x = muddyPitch(30, rain);
                due("swept in a rain of " + rain, x.sweeper(0, 5), 0);
                due("mud in a rain of " + rain, x.crossing(4, 0), 30 + rain);
                due("broom in a rain of " + rain, x.sweeper(0, 2), 40);
            }
        });
        holds("2. strength + broom / 8 of mud, as far as there is some", () -> {
            int[][] mudSweptLeft = {{0, 0, 0}, {1, 1, 0}, {5, 5, 0}, {6, 6, 0}, {7, 6, 1}, {50, 6, 44}};
            for (int[] row : mudSweptLeft) {
                MudSweepers x = muddyPitch(row[0], 0);
                due("swept of " + row[0], x.sweeper(0, 5), row[1]);
                due("left of " + row[0], x.crossing(4, 0), row[2]);
                due("swept of " + row[0] + " in all", x.count(6), row[1]);
            }
        });
        holds("2. sweepers who hold a pitch (one without a pitch does not sweep, and wears no broom)", () -> {
            MudSweepers x = pitchCity(1, 0);
            x.spill(4, 50);
            x.send(0, 4);
            x.pass(1);
            due("sweeper(0, 5)", x.sweeper(0, 5), 0);
            due("sweeper(0, 2)", x.sweeper(0, 2), 40);
            due("crossing(4, 0)", x.crossing(4, 0), 50);
        });
        holds("2. sweepers who hold a pitch (they sweep the own crossing alone)", () -> {
            MudSweepers x = pitchCity(9, 0);
            for (int c = 0; c < 9; c++) {
                x.spill(c, 20);
            }
            x.pass(1);
            for (int c = 0; c < 9; c++) {
                due("crossing(" + c + ", 0)", x.crossing(c, 0), c == 4 ? 6 : 20);
            }
        });
    }

    private static void broomsWear() {
        holds("2. the broom is 1 less (with no mud to sweep as well)", () -> {
            MudSweepers x = muddyPitch(0, 0);
            due("sweeper(0, 2)", x.sweeper(0, 2), 39);
            due("sweeper(0, 5)", x.sweeper(0, 5), 0);
        });
        holds("2. the broom is 1 less (after it is used, not before)", () -> {
            MudSweepers x = muddyPitch(50, 0);
            due("swept with a broom of 40", x.sweeper(0, 5), 6);
            x.pass(1);
            due("swept with a broom of 40 and one of 39", x.sweeper(0, 5), 11);
        });
        holds("2. the broom is 1 less (at least 0)", () -> {
            MudSweepers x = pitchCity(3, 0);
            x.pass(39);
            due("broom after 39 quarters", x.sweeper(0, 2), 1);
            x.pass(1);
            due("broom after 40 quarters", x.sweeper(0, 2), 0);
            x.pass(1);
            due("broom after 41 quarters", x.sweeper(0, 2), 0);
            x.spill(4, 50);
            x.pass(1);
            due("swept without a broom", x.sweeper(0, 5), 3);
            due("broom after 42 quarters", x.sweeper(0, 2), 0);
        });
    }

    private static void payByRain() {
        holds("3. with a rain of less than 6 (5 and less: it is paid)", () -> {
            for (int rain = 0; rain <= 5; rain++) {
                MudSweepers x = muddyPitch(0, rain);
                due("pence in a rain of " + rain, x.sweeper(0, 3), 10);
                due("paid in a rain of " + rain, x.crossing(4, 5), 10);
            }
        });
        holds("3. with a rain of less than 6 (6 and more: nobody pays)", () -> {
            for (int rain = 6; rain <= 9; rain++) {
                MudSweepers x = muddyPitch(0, rain);
                due("pence in a rain of " + rain, x.sweeper(0, 3), 0);
                due("paid in a rain of " + rain, x.crossing(4, 5), 0);
            }
            MudSweepers y = pitchCity(9, 20);
            y.setRain(1, 6);
            due("pass(1) in a rain of 6", y.pass(1), 0);
        });
        holds("3. At each crossing with a holder (none is paid where there is none)", () -> {
            MudSweepers x = stillCity(30);
            x.come(4, 9);
            due("pass(1) before a pitch is held", x.pass(1), 0);
            due("pass(1) with one held", x.pass(1), 15);
            for (int c = 0; c < 9; c++) {
                due("crossing(" + c + ", 5)", x.crossing(c, 5), c == 4 ? 15 : 0);
            }
        });
        holds("3. come to the holder as pence (to no other one there)", () -> {
            MudSweepers x = pitchCity(9, 20);
            x.come(4, 1);
            x.pass(1);
            due("sweeper(0, 3)", x.sweeper(0, 3), 10);
            due("sweeper(1, 3)", x.sweeper(1, 3), 0);
            due("count(4)", x.count(4), 10);
        });
    }

    /** What 20 walkers pay over as much mud as is left by the sweeper of strength 1, who sweeps 6. */
    private static int payOver(int mudLeft) {
        MudSweepers x = pitchCity(1, 20);
        x.spill(4, mudLeft + 6);
        int paid = x.pass(1);
        due("mud that is left", x.crossing(4, 0), mudLeft);
        due("pence", x.sweeper(0, 3), paid);
        return paid;
    }

    private static void payByMud() {
        holds("3. with a mud of 5 or less walkers / 2", () -> {
            due("pay over 0", payOver(0), 10);
            due("pay over 4", payOver(4), 10);
            due("pay over 5", payOver(5), 10);
        });
        holds("3. with one of 15 or less walkers / 5 (from 6 on)", () -> {
            due("pay over 6", payOver(6), 4);
            due("pay over 7", payOver(7), 4);
            due("pay over 14", payOver(14), 4);
            due("pay over 15", payOver(15), 4);
        });
        holds("3. with more than 15 nothing is paid", () -> {
            due("pay over 16", payOver(16), 0);
            due("pay over 17", payOver(17), 0);
            due("pay over 44", payOver(44), 0);
        });
    }

    private static void dueHolder(MudSweepers x, int crossing, int want) {
        due("holder of " + crossing, x.crossing(crossing, 3), want);
        if (want >= 0) {
            due("pitch of the sweeper " + want, x.sweeper(want, 4), 1);
            due("place of the sweeper " + want, x.sweeper(want, 0), crossing);
        }
    }

    private static void dueWithoutPitch(MudSweepers x, int sweeper, int place, int drivenOff) {
        due("pitch of the sweeper " + sweeper, x.sweeper(sweeper, 4), 0);
        due("place of the sweeper " + sweeper, x.sweeper(sweeper, 0), place);
        due("driven off, the sweeper " + sweeper, x.sweeper(sweeper, 6), drivenOff);
    }

    private static void pitchesAreTaken() {
        holds("4. if nobody holds the pitch of the own crossing, takes it", () -> {
            for (int c = 0; c < 9; c++) {
                MudSweepers x = new MudSweepers();
                x.come(c, 1);
                dueHolder(x, c, -1);
                x.pass(1);
                dueHolder(x, c, 0);
                due("count(2)", x.count(2), 1);
                due("count(7)", x.count(7), 0);
            }
        });
        holds("4. if a weaker one does, takes it as well (that one has none then)", () -> {
            MudSweepers x = pitchCity(8, 0);
            x.come(4, 9);
            x.pass(1);
            dueHolder(x, 4, 1);
            dueWithoutPitch(x, 0, 4, 1);
            due("sweeper(1, 6)", x.sweeper(1, 6), 0);
            due("count(7)", x.count(7), 1);
            due("count(2)", x.count(2), 1);
        });
        holds("4. pitches are taken in heavy rain as in any other quarter", () -> {
            for (int rain = 5; rain <= 9; rain++) {
                MudSweepers x = stillCity(0);
                x.setRain(0, rain);
                x.setRain(1, rain);
                x.come(4, 5);
                x.come(4, 5);
                x.pass(1);
                dueHolder(x, 4, 0);
                dueWithoutPitch(x, 1, 3, 0);
                x.come(4, 6);
                x.pass(1);
                dueHolder(x, 4, 2);
                dueWithoutPitch(x, 0, 4, 1);
                dueHolder(x, 3, 1);
            }
        });
    }

    private static void pitchesAreKept() {
        holds("4. otherwise this one goes (from one of the same strength)", () -> {
            for (int strength = 1; strength <= 9; strength++) {
                MudSweepers x = pitchCity(strength, 0);
                x.come(4, strength);
                x.pass(1);
                dueHolder(x, 4, 0);
                dueWithoutPitch(x, 1, 3, 0);
                due("sweeper(0, 6)", x.sweeper(0, 6), 0);
            }
        });
        holds("4. otherwise this one goes (from a stronger one)", () -> {
            MudSweepers x = pitchCity(6, 0);
            x.come(4, 5);
            x.pass(1);
            dueHolder(x, 4, 0);
            dueWithoutPitch(x, 1, 3, 0);
            due("count(7)", x.count(7), 0);
        });
        holds("4. the strength alone decides, not the broom", () -> {
            MudSweepers x = pitchCity(5, 0);
            x.pass(40);
            x.come(4, 5);
            x.pass(1);
            dueHolder(x, 4, 0);
            dueWithoutPitch(x, 1, 3, 0);
        });
        holds("4. each who has no pitch (a holder stays, whatever walkers there are beside)", () -> {
            MudSweepers x = stillCity(30);
            x.set(4, 0, 0);
            x.come(4, 1);
            x.pass(20);
            dueHolder(x, 4, 0);
            due("sweeper(0, 3)", x.sweeper(0, 3), 0);
        });
    }

    private static void turnsGoByNumbers() {
        holds("4. Sweepers, by numbers (the first one takes, an equal one goes)", () -> {
            MudSweepers x = stillCity(0);
            x.come(4, 5);
            x.come(4, 5);
            x.pass(1);
            dueHolder(x, 4, 0);
            dueWithoutPitch(x, 1, 3, 0);
        });
        holds("4. Sweepers, by numbers (a stronger one behind drives off in the same step)", () -> {
            MudSweepers x = stillCity(0);
            x.come(4, 5);
            x.come(4, 6);
            x.come(4, 7);
            x.pass(1);
            dueHolder(x, 4, 2);
            dueWithoutPitch(x, 0, 4, 1);
            dueWithoutPitch(x, 1, 4, 1);
            due("count(7)", x.count(7), 2);
        });
        holds("4. as the turn comes (also one who was driven off in this step)", () -> {
            MudSweepers x = stillCity(0);
            x.come(0, 6);
            x.come(4, 5);
            x.pass(1);
            x.send(0, 4);
            x.pass(1);
            dueHolder(x, 4, 0);
            dueWithoutPitch(x, 1, 3, 1);
        });
        holds("4. as the turn comes (one whose turn is over waits for the next quarter)", () -> {
            MudSweepers x = pitchCity(5, 0);
            x.come(4, 6);
            x.pass(1);
            dueWithoutPitch(x, 0, 4, 1);
            x.pass(1);
            dueWithoutPitch(x, 0, 3, 1);
            x.pass(1);
            dueHolder(x, 3, 0);
        });
        holds("4. each (one step a quarter: who goes on takes nothing in the same one)", () -> {
            MudSweepers x = pitchCity(9, 0);
            x.come(3, 1);
            x.pass(1);
            x.come(4, 5);
            x.pass(1);
            dueWithoutPitch(x, 2, 3, 0);
            dueHolder(x, 3, 1);
            x.pass(1);
            dueHolder(x, 3, 2);
            dueWithoutPitch(x, 1, 3, 1);
        });
        holds("4. by numbers (one finds the pitches as those before have left them)", () -> {
            MudSweepers x = stillCity(0);
            x.come(1, 9);
            x.come(4, 5);
            x.come(3, 8);
            x.pass(1);
            x.send(2, 3);
            x.send(0, 4);
            x.pass(1);
            dueHolder(x, 4, 0);
            dueWithoutPitch(x, 1, 3, 1);
            dueHolder(x, 3, 2);
        });
    }

    private static void dueGoesOn(MudSweepers x, int from, int to) {
        x.come(from, 5);
        x.come(from, 5);
        x.pass(1);
        dueHolder(x, from, 0);
        dueWithoutPitch(x, 1, to, 0);
    }

    private static void dueGoesOnFrom4(int left, int right, int above, int below, int to) {
        MudSweepers x = stillCity(30);
        x.set(3, 0, left);
        x.set(5, 0, right);
        x.set(1, 0, above);
        x.set(7, 0, below);
        dueGoesOn(x, 4, to);
    }

    private static void goingOn() {
        holds("4. goes to the neighbour with the most walkers (1 more is enough)", () -> {
            dueGoesOnFrom4(10, 9, 9, 9, 3);
            dueGoesOnFrom4(9, 10, 9, 9, 5);
            dueGoesOnFrom4(9, 9, 10, 9, 1);
            dueGoesOnFrom4(9, 9, 9, 10, 7);
        });
        holds("4. goes to the neighbour with the most walkers (0 and 30 are numbers of walkers too)", () -> {
            dueGoesOnFrom4(0, 0, 0, 1, 7);
            dueGoesOnFrom4(29, 29, 29, 30, 7);
            dueGoesOnFrom4(0, 0, 0, 0, 3);
        });
        holds("4. goes to the neighbour with the most walkers (not to the one with the least mud or carriages)", () -> {
            MudSweepers x = stillCity(10);
            x.set(7, 9, 11);
            x.spill(7, 50);
            dueGoesOn(x, 4, 7);
        });
        holds("4. goes to the neighbour with the most walkers (also where a pitch is held)", () -> {
            MudSweepers x = stillCity(10);
            x.set(7, 0, 11);
            x.come(4, 5);
            x.come(4, 5);
            x.come(7, 9);
            x.pass(1);
            dueWithoutPitch(x, 1, 7, 0);
            dueHolder(x, 7, 2);
        });
    }

    private static void goingOnOfSeveral() {
        holds("4. of several left first", () -> {
            dueGoesOnFrom4(9, 9, 9, 9, 3);
            dueGoesOnFrom4(9, 9, 0, 0, 3);
            dueGoesOnFrom4(9, 0, 9, 0, 3);
            dueGoesOnFrom4(9, 0, 0, 9, 3);
        });
        holds("4. of several right before above and below", () -> {
            dueGoesOnFrom4(8, 9, 9, 9, 5);
            dueGoesOnFrom4(8, 9, 9, 0, 5);
            dueGoesOnFrom4(8, 9, 0, 9, 5);
        });
        holds("4. of several above before below", () -> dueGoesOnFrom4(8, 8, 9, 9, 1));
        holds("4. of several left, right, above, below first (at the edges of the grid)", () -> {
            for (int c = 0; c < 9; c++) {
                dueGoesOn(stillCity(10), c, NEIGHBOURS[c][0]);
            }
            for (int c = 0; c < 9; c++) {
                MudSweepers x = stillCity(10);
                x.set(NEIGHBOURS[c][0], 0, 9);
                dueGoesOn(x, c, NEIGHBOURS[c][1]);
            }
        });
    }

    private static void stepsInTheirOrder() {
        holds("1 before 2: the mud of this quarter is swept in it", () -> {
            MudSweepers x = pitchCity(1, 0);
            x.set(4, 9, 0);
            x.pass(1);
            due("crossing(4, 0)", x.crossing(4, 0), 3);
        });
        holds("2 before 3: it is paid for the mud that is left", () -> {
            due("pay over 11 before it is swept", payOver(5), 10);
            due("pay over 21 before it is swept", payOver(15), 4);
        });
        holds("3 before 4: one who takes a pitch is neither sweeping nor paid in that quarter", () -> {
            MudSweepers x = stillCity(20);
            x.come(4, 9);
            x.spill(4, 4);
            due("pass(1)", x.pass(1), 0);
            due("crossing(4, 0)", x.crossing(4, 0), 4);
            due("sweeper(0, 2)", x.sweeper(0, 2), 40);
        });
        holds("3 before 4: one who is driven off is paid in that quarter still", () -> {
            MudSweepers x = pitchCity(5, 20);
            x.come(4, 6);
            due("pass(1)", x.pass(1), 10);
            due("sweeper(0, 3)", x.sweeper(0, 3), 10);
            due("sweeper(0, 2)", x.sweeper(0, 2), 39);
            due("sweeper(1, 3)", x.sweeper(1, 3), 0);
        });
        holds("5 comes last: a quarter goes with its own rain", () -> {
            MudSweepers x = pitchCity(9, 20);
            x.setRain(1, 0);
            x.setRain(2, 9);
            due("pass(1) in the quarter 1", x.pass(1), 10);
            due("pass(1) in the quarter 2", x.pass(1), 0);
            due("pass(1) in the quarter 3", x.pass(1), 10);
        });
    }

    private static void calls() {
        holds("An object is used for at most 512 calls (the last one is answered as due)", () -> {
            MudSweepers x = new MudSweepers();
            x.set(0, 0, 30);
            x.come(0, 9);
            for (int call = 3; call <= 511; call++) {
                x.pass(96);
            }
            due("the 512th call", x.sweeper(0, 3), 15 * (509 * 96 - 1));
        });
        holds("An object is used for at most 512 calls (of the dearest ones)", () -> {
            MudSweepers x = new MudSweepers();
            for (int i = 0; i < 8; i++) {
                x.come(i, 9 - i);
            }
            int first = x.advise(7, 96);
            for (int call = 10; call <= 511; call++) {
                x.advise(7, 96);
            }
            due("the 512th call", x.advise(7, 96), first);
        });
        holds("each object is a city by itself", () -> {
            MudSweepers x = busyCity();
            MudSweepers y = busyCity();
            x.pass(7);
            x.set(0, 9, 30);
            x.setRain(1, 9);
            x.come(3, 3);
            x.advise(0, 20);
            same("of another object", y, busyCity());
        });
    }
}
