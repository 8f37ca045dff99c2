import java.math.BigInteger;

/** The sentences of the promises that name a boundary case or a refused call, each with a test of its own. */
public final class PromisesBoundariesTest extends Sentences {
    public static void main(String[] args) {
        promise1();
        promise2();
        promise2Refused();
        promise3();
        promise4();
        promise5();
        promise5Refused();
        promise6();
        promise6Refused();
        promise7();
        promise8();
        promise9();
        promise10();
        promise11();
        promise12();
        promise12LongWays();
        promise13();
        promise14();
        promise14Most();
        promise14OwnCrossing();
        promise15();
        promise16();
        promise17();
        end();
    }

    /** Numbers of sweepers of whom there is none in a city of so many, the free places up to 8 among them. */
    private static int[] nobody(int sweepers) {
        int[] numbers = new int[15 - sweepers];
        for (int i = 0; i < numbers.length; i++) {
            numbers[i] = sweepers + i;
        }
        numbers[numbers.length - 1] = Integer.MAX_VALUE;
        numbers[numbers.length - 2] = Integer.MIN_VALUE;
        numbers[numbers.length - 3] = -1;
        return numbers;
    }

    private static void refusedWithoutSweeper(String what, AskWith ask) {
        refusedAll(MudSweepers::new, what + " in an empty city,", nobody(0), INDEX, ask);
        refusedAll(Sentences::busyCity, what + " in a city of 4,", nobody(4), INDEX, ask);
        refusedAll(Sentences::fullCity, what + " in a full city,", nobody(8), INDEX, ask);
    }

    private static void promise1() {
        holds("Promise 1: Creates a city without sweepers, in the quarter 0", () -> {
            MudSweepers x = new MudSweepers();
            int[] city = {0, 0, 0, 0, 0, 9, 0, 0};
            for (int what = 0; what < 8; what++) {
                due("count(" + what + ")", x.count(what), city[what]);
            }
            int[] crossing = {0, 2, 10, -1, 0, 0};
            for (int i = 0; i < 54; i++) {
                due("crossing(" + i / 6 + ", " + i % 6 + ")", x.crossing(i / 6, i % 6), crossing[i % 6]);
            }
            dueException(x, "sweeper(0, 0)", INDEX, y -> y.sweeper(0, 0));
        });
    }

    private static void promise2() {
        holds("Promise 2: Returns 100 * carriages + walkers, as they were before (least and most)", () -> {
            MudSweepers x = new MudSweepers();
            for (int c = 0; c < 9; c++) {
                due("set(" + c + ", 0, 0)", x.set(c, 0, 0), 210);
                due("set(" + c + ", 9, 30)", x.set(c, 9, 30), 0);
                due("crossing(" + c + ", 1)", x.crossing(c, 1), 9);
                due("crossing(" + c + ", 2)", x.crossing(c, 2), 30);
                due("set(" + c + ", 9, 30)", x.set(c, 9, 30), 930);
                due("set(" + c + ", 0, 30)", x.set(c, 0, 30), 930);
                due("set(" + c + ", 9, 0)", x.set(c, 9, 0), 30);
                due("set(" + c + ", 1, 1)", x.set(c, 1, 1), 900);
                due("crossing(" + c + ", 1)", x.crossing(c, 1), 1);
                due("crossing(" + c + ", 2)", x.crossing(c, 2), 1);
            }
        });
        holds("Promise 2: the carriages and walkers from now on (mud, holder and what was paid stay)", () -> {
            MudSweepers x = pitchCity(1, 20);
            x.spill(4, 16);
            x.pass(1);
            x.set(4, 9, 0);
            int[] want = {10, 9, 0, 0, 1, 4};
            for (int what = 0; what < 6; what++) {
                due("crossing(4, " + what + ")", x.crossing(4, what), want[what]);
            }
        });
    }

    private static void promise2Refused() {
        holds("Promise 2: Throws IndexOutOfBoundsException if crossing is not 0 to 8",
            () -> refusedAll(Sentences::busyCity, "set", outside(0, 8), INDEX, (x, c) -> x.set(c, 1, 1)));
        holds("Promise 2: Throws IllegalArgumentException if carriages is not 0 to 9",
            () -> refusedAll(Sentences::busyCity, "set", outside(0, 9), ARGUMENT, (x, k) -> x.set(8, k, 1)));
        holds("Promise 2: Throws IllegalArgumentException if walkers is not 0 to 30",
            () -> refusedAll(Sentences::busyCity, "set", outside(0, 30), ARGUMENT, (x, w) -> x.set(0, 1, w)));
        holds("Promise 2: the crossing's exception is thrown first", () -> {
            refusedAll(Sentences::busyCity, "set of 10 carriages", outside(0, 8), INDEX, (x, c) -> x.set(c, 10, 1));
            refusedAll(Sentences::busyCity, "set of 31 walkers", outside(0, 8), INDEX, (x, c) -> x.set(c, 1, 31));
            refusedAll(Sentences::busyCity, "set of -1 and -1", outside(0, 8), INDEX, (x, c) -> x.set(c, -1, -1));
            refused(Sentences::busyCity, "set of -1 and -1", ARGUMENT, x -> x.set(0, -1, -1));
        });
    }

    private static void promise3() {
        holds("Promise 3: Returns the rain before (least and most, in each quarter of the table)", () -> {
            MudSweepers x = new MudSweepers();
            for (int q = 0; q < 8; q++) {
                due("setRain(" + q + ", 9)", x.setRain(q, 9), 0);
            }
            for (int q = 0; q < 8; q++) {
                due("setRain(" + q + ", 1)", x.setRain(q, 1), 9);
                due("setRain(" + q + ", 0)", x.setRain(q, 0), 1);
                due("setRain(" + q + ", 8)", x.setRain(q, 8), 0);
                due("setRain(" + q + ", 9)", x.setRain(q, 9), 8);
            }
        });
        holds("Promise 3: Throws IndexOutOfBoundsException if quarter is not 0 to 7",
            () -> refusedAll(Sentences::busyCity, "setRain", outside(0, 7), INDEX, (x, q) -> x.setRain(q, 1)));
        holds("Promise 3: Throws IllegalArgumentException if rain is not 0 to 9", () -> {
            refusedAll(Sentences::busyCity, "setRain", outside(0, 9), ARGUMENT, (x, r) -> x.setRain(0, r));
            refusedAll(Sentences::busyCity, "setRain", outside(0, 9), ARGUMENT, (x, r) -> x.setRain(7, r));
        });
        holds("Promise 3: the quarter's exception is thrown first", () -> {
            refusedAll(Sentences::busyCity, "setRain to -1", outside(0, 7), INDEX, (x, q) -> x.setRain(q, -1));
            refusedAll(Sentences::busyCity, "setRain to 10", outside(0, 7), INDEX, (x, q) -> x.setRain(q, 10));
        });
    }

    private static void promise4() {
        holds("Promise 4: Returns its mud then (least and most)", () -> {
            MudSweepers x = new MudSweepers();
            due("spill(0, 1)", x.spill(0, 1), 1);
            due("spill(0, 1)", x.spill(0, 1), 2);
            due("crossing(0, 0)", x.crossing(0, 0), 2);
            due("spill(8, 50)", x.spill(8, 50), 50);
            due("crossing(8, 0)", x.crossing(8, 0), 50);
            due("all mud", x.count(3), 52);
        });
        holds("Promise 4: at most 50", () -> {
            int[][] mudMoreThen = {{1, 48, 49}, {1, 49, 50}, {1, 50, 50}, {49, 1, 50}, {49, 2, 50}, {50, 1, 50}, {50, 50, 50}};
            for (int[] row : mudMoreThen) {
                MudSweepers x = new MudSweepers();
                x.spill(3, row[0]);
                due("spill(3, " + row[1] + ") upon " + row[0], x.spill(3, row[1]), row[2]);
                due("crossing(3, 0)", x.crossing(3, 0), row[2]);
            }
        });
        holds("Promise 4: Throws IndexOutOfBoundsException if crossing is not 0 to 8",
            () -> refusedAll(Sentences::busyCity, "spill", outside(0, 8), INDEX, (x, c) -> x.spill(c, 1)));
        holds("Promise 4: Throws IllegalArgumentException if mud is not 1 to 50",
            () -> refusedAll(Sentences::busyCity, "spill", outside(1, 50), ARGUMENT, (x, m) -> x.spill(0, m)));
        holds("Promise 4: Throws IllegalArgumentException if mud is not 1 to 50 (upon a full crossing too)", () -> {
            Maker muddy = () -> {
                MudSweepers x = busyCity();
                x.spill(0, 50);
                return x;
            };
            refusedAll(muddy, "spill", outside(1, 50), ARGUMENT, (x, m) -> x.spill(0, m));
        });
        holds("Promise 4: the crossing's exception is thrown first", () -> {
            refusedAll(Sentences::busyCity, "spill of 0", outside(0, 8), INDEX, (x, c) -> x.spill(c, 0));
            refusedAll(Sentences::busyCity, "spill of 51", outside(0, 8), INDEX, (x, c) -> x.spill(c, 51));
        });
    }

    private static void promise5() {
        holds("Promise 5: Returns the number (also the eighth one's, 7)", () -> {
            MudSweepers x = new MudSweepers();
            for (int i = 0; i < 8; i++) {
                due("come(8, 9)", x.come(8, 9), i);
                due("count(1)", x.count(1), i + 1);
            }
        });
        holds("Promise 5: the crossing where a new sweeper is, with the strength (least and most)", () -> {
            MudSweepers x = new MudSweepers();
            x.come(0, 9);
            x.come(8, 1);
            due("sweeper(0, 0)", x.sweeper(0, 0), 0);
            due("sweeper(0, 1)", x.sweeper(0, 1), 9);
            due("sweeper(1, 0)", x.sweeper(1, 0), 8);
            due("sweeper(1, 1)", x.sweeper(1, 1), 1);
            due("crossing(0, 4)", x.crossing(0, 4), 1);
            due("crossing(8, 4)", x.crossing(8, 4), 1);
        });
        holds("Promise 5: without a pitch (nobody's and another one's)", () -> {
            MudSweepers x = pitchCity(1, 0);
            x.come(0, 9);
            x.come(4, 9);
            due("sweeper(1, 4)", x.sweeper(1, 4), 0);
            due("crossing(0, 3)", x.crossing(0, 3), -1);
            due("sweeper(2, 4)", x.sweeper(2, 4), 0);
            due("crossing(4, 3)", x.crossing(4, 3), 0);
        });
    }

    private static void promise5Refused() {
        holds("Promise 5: Throws IndexOutOfBoundsException if crossing is not 0 to 8",
            () -> refusedAll(Sentences::busyCity, "come", outside(0, 8), INDEX, (x, c) -> x.come(c, 1)));
        holds("Promise 5: Throws IllegalArgumentException if strength is not 1 to 9",
            () -> refusedAll(Sentences::busyCity, "come", outside(1, 9), ARGUMENT, (x, s) -> x.come(0, s)));
        holds("Promise 5: Throws IllegalStateException if there are 8", () -> {
            for (int c = 0; c < 9; c++) {
                int crossing = c;
                refused(Sentences::fullCity, "come(" + c + ", 9)", STATE, x -> x.come(crossing, 9));
                refused(Sentences::fullCity, "come(" + c + ", 1)", STATE, x -> x.come(crossing, 1));
            }
        });
        holds("Promise 5: the crossing's exception is thrown first, then the strength's, then the full city's", () -> {
            refusedAll(Sentences::busyCity, "come of strength 0", outside(0, 8), INDEX, (x, c) -> x.come(c, 0));
            refusedAll(Sentences::busyCity, "come of strength 10", outside(0, 8), INDEX, (x, c) -> x.come(c, 10));
            refusedAll(Sentences::fullCity, "the ninth come of strength 1", outside(0, 8), INDEX, (x, c) -> x.come(c, 1));
            refusedAll(Sentences::fullCity, "the ninth come of strength 0", outside(0, 8), INDEX, (x, c) -> x.come(c, 0));
            refusedAll(Sentences::fullCity, "the ninth come", outside(1, 9), ARGUMENT, (x, s) -> x.come(0, s));
        });
    }

    private static void promise6() {
        holds("Promise 6: Sends a sweeper to a crossing; returns the one where this one was", () -> {
            for (int c = 0; c < 9; c++) {
                MudSweepers x = fullCity();
                for (int s = 0; s < 8; s++) {
                    int was = x.sweeper(s, 0);
                    due("send(" + s + ", " + c + ")", x.send(s, c), was);
                    due("sweeper(" + s + ", 0)", x.sweeper(s, 0), c);
                }
                due("crossing(" + c + ", 4)", x.crossing(c, 4), 8);
                due("count(2)", x.count(2), 0);
            }
        });
        holds("Promise 6: who has no pitch then (and the crossing has no holder)", () -> {
            MudSweepers x = pitchCity(5, 20);
            due("send(0, 0)", x.send(0, 0), 4);
            due("sweeper(0, 4)", x.sweeper(0, 4), 0);
            due("crossing(4, 3)", x.crossing(4, 3), -1);
            due("crossing(0, 3)", x.crossing(0, 3), -1);
            due("count(2)", x.count(2), 0);
            due("count(7)", x.count(7), 0);
        });
        holds("Promise 6: who has no pitch then (also sent to the own crossing)", () -> {
            MudSweepers x = pitchCity(5, 20);
            due("send(0, 4)", x.send(0, 4), 4);
            due("sweeper(0, 0)", x.sweeper(0, 0), 4);
            due("sweeper(0, 4)", x.sweeper(0, 4), 0);
            due("crossing(4, 3)", x.crossing(4, 3), -1);
            due("pass(1)", x.pass(1), 0);
            due("sweeper(0, 4)", x.sweeper(0, 4), 1);
        });
        holds("Promise 6: another one's pitch stays, at the old crossing and at the new one", () -> {
            MudSweepers x = pitchCity(5, 0);
            x.come(0, 9);
            x.pass(1);
            x.come(4, 9);
            x.send(2, 0);
            due("crossing(4, 3)", x.crossing(4, 3), 0);
            due("crossing(0, 3)", x.crossing(0, 3), 1);
            due("count(2)", x.count(2), 2);
        });
    }

    private static void promise6Refused() {
        holds("Promise 6: Throws IndexOutOfBoundsException if there is no such sweeper",
            () -> refusedWithoutSweeper("send", (x, s) -> x.send(s, 0)));
        holds("Promise 6: Throws IndexOutOfBoundsException if crossing is not 0 to 8", () -> {
            refusedAll(Sentences::busyCity, "send", outside(0, 8), INDEX, (x, c) -> x.send(1, c));
            refusedAll(Sentences::busyCity, "send of nobody", outside(0, 8), INDEX, (x, c) -> x.send(4, c));
        });
    }

    /** A city in which the sweeper 0 has so many pence, to be had of 2 * pence walkers at once, and a broom of 39. */
    private static MudSweepers pursedCity(int pence) {
        MudSweepers x = pitchCity(5, 2 * pence);
        x.pass(1);
        return x;
    }

    private static void promise7() {
        holds("Promise 7: buys a new broom for 5 pence; returns the pence that are left", () -> {
            for (int pence = 5; pence <= 15; pence++) {
                MudSweepers x = pursedCity(pence);
                due("buy(0) with " + pence, x.buy(0), pence - 5);
                due("sweeper(0, 3)", x.sweeper(0, 3), pence - 5);
                due("count(4)", x.count(4), pence - 5);
                due("crossing(4, 5)", x.crossing(4, 5), pence);
            }
        });
        holds("Promise 7: it is 40 then (from 39, from 0 and from 40)", () -> {
            MudSweepers x = pitchCity(5, 20);
            x.pass(1);
            due("sweeper(0, 2)", x.sweeper(0, 2), 39);
            x.buy(0);
            due("sweeper(0, 2)", x.sweeper(0, 2), 40);
            x.buy(0);
            due("sweeper(0, 2)", x.sweeper(0, 2), 40);
            x.pass(45);
            due("sweeper(0, 2)", x.sweeper(0, 2), 0);
            x.buy(0);
            due("sweeper(0, 2)", x.sweeper(0, 2), 40);
            due("sweeper(0, 7)", x.sweeper(0, 7), 10);
        });
        holds("Promise 7: one without a pitch, and the eighth one, buy as well", () -> {
            MudSweepers x = stillCity(10);
            for (int i = 0; i < 8; i++) {
                x.come(i, 5);
            }
            x.pass(2);
            x.send(0, 8);
            due("buy(0)", x.buy(0), 0);
            due("buy(7)", x.buy(7), 0);
            due("sweeper(7, 2)", x.sweeper(7, 2), 40);
            due("sweeper(6, 2)", x.sweeper(6, 2), 39);
            due("count(4)", x.count(4), 30);
        });
        holds("Promise 7: Throws IndexOutOfBoundsException if there is no such sweeper",
            () -> refusedWithoutSweeper("buy", (x, s) -> x.buy(s)));
        holds("Promise 7: Throws IllegalStateException if this one has less than 5", () -> {
            for (int pence = 0; pence <= 4; pence++) {
                int purse = pence;
                refused(() -> pursedCity(purse), "buy(0) with " + pence, STATE, x -> x.buy(0));
            }
        });
    }

    private static void promise8() {
        holds("Promise 8: what, 0 to 7, each of them its own fact", () -> {
            MudSweepers x = stillCity(20);
            x.come(4, 3);
            x.pass(1);
            x.spill(4, 4);
            x.pass(9);
            x.come(4, 8);
            x.pass(2);
            dueFacts(x, 0, 3, 3, 30, 100, 0, 4, 1, 6);
            dueFacts(x, 1, 4, 8, 39, 10, 1, 0, 0, 12);
        });
        holds("Promise 8: 7 what this one would sweep away at most now (also without a pitch, and where no mud is)", () -> {
            MudSweepers x = new MudSweepers();
            x.come(0, 1);
            x.come(0, 9);
            due("sweeper(0, 7)", x.sweeper(0, 7), 6);
            due("sweeper(1, 7)", x.sweeper(1, 7), 14);
        });
        holds("Promise 8: 6 how often this one was driven off (each time)", () -> {
            MudSweepers x = stillCity(0);
            x.come(4, 1);
            x.come(4, 2);
            for (int t = 1; t <= 3; t++) {
                x.send(0, 4);
                x.send(1, 4);
                x.pass(1);
                due("sweeper(0, 6)", x.sweeper(0, 6), t);
                due("sweeper(1, 6)", x.sweeper(1, 6), 0);
                due("count(7)", x.count(7), t);
            }
        });
        holds("Promise 8: changes nothing", () -> {
            for (int i = 0; i < 64; i++) {
                int ask = i;
                changesNothing(Sentences::fullCity, "sweeper", x -> x.sweeper(ask / 8, ask % 8));
            }
        });
        holds("Promise 8: Throws IndexOutOfBoundsException if there is no such sweeper", () -> {
            for (int i = 0; i < 8; i++) {
                int what = i;
                refusedWithoutSweeper("sweeper, " + what, (x, s) -> x.sweeper(s, what));
            }
        });
        holds("Promise 8: Throws IndexOutOfBoundsException if what is not 0 to 7", () -> {
            refusedAll(Sentences::busyCity, "sweeper(0)", outside(0, 7), INDEX, (x, what) -> x.sweeper(0, what));
            refusedAll(Sentences::fullCity, "sweeper(7)", outside(0, 7), INDEX, (x, what) -> x.sweeper(7, what));
            refusedAll(Sentences::busyCity, "sweeper(4)", outside(0, 7), INDEX, (x, what) -> x.sweeper(4, what));
        });
    }

    private static void dueFacts(MudSweepers x, int sweeper, int... facts) {
        for (int what = 0; what < 8; what++) {
            due("sweeper(" + sweeper + ", " + what + ")", x.sweeper(sweeper, what), facts[what]);
        }
    }

    private static void promise9() {
        holds("Promise 9: what, 0 to 5, each of them its own fact", () -> {
            MudSweepers x = pitchCity(3, 20);
            x.come(4, 1);
            x.spill(4, 20);
            x.pass(1);
            x.send(1, 4);
            x.set(4, 7, 29);
            int[] want = {12, 7, 29, 0, 2, 4};
            for (int what = 0; what < 6; what++) {
                due("crossing(4, " + what + ")", x.crossing(4, what), want[what]);
            }
        });
        holds("Promise 9: 3 the holder of its pitch, -1 for none (from 0 to 7)", () -> {
            MudSweepers x = new MudSweepers();
            for (int i = 0; i < 8; i++) {
                x.come(8 - i, 5);
            }
            x.pass(1);
            for (int c = 0; c < 9; c++) {
                due("crossing(" + c + ", 3)", x.crossing(c, 3), c == 0 ? -1 : 8 - c);
            }
        });
        holds("Promise 9: 4 sweepers at it (none, and all 8)", () -> {
            MudSweepers x = new MudSweepers();
            for (int i = 1; i <= 8; i++) {
                x.come(8, 5);
                due("crossing(8, 4)", x.crossing(8, 4), i);
                due("crossing(0, 4)", x.crossing(0, 4), 0);
            }
        });
        holds("Promise 9: 5 pence that were paid there in all (by all its holders, spent or not)", () -> {
            MudSweepers x = pitchCity(3, 20);
            x.pass(1);
            x.buy(0);
            x.come(4, 4);
            x.pass(1);
            due("crossing(4, 5)", x.crossing(4, 5), 20);
            x.pass(1);
            due("crossing(4, 5)", x.crossing(4, 5), 30);
            x.send(1, 0);
            due("crossing(4, 5)", x.crossing(4, 5), 30);
            due("crossing(0, 5)", x.crossing(0, 5), 0);
        });
        holds("Promise 9: changes nothing", () -> {
            for (int i = 0; i < 54; i++) {
                int ask = i;
                changesNothing(Sentences::busyCity, "crossing", x -> x.crossing(ask / 6, ask % 6));
            }
        });
        holds("Promise 9: Throws IndexOutOfBoundsException if crossing is not 0 to 8", () -> {
            for (int i = 0; i < 6; i++) {
                int what = i;
                refusedAll(Sentences::busyCity, "crossing, " + what, outside(0, 8), INDEX, (x, c) -> x.crossing(c, what));
            }
        });
        holds("Promise 9: Throws IndexOutOfBoundsException if what is not 0 to 5", () -> {
            refusedAll(Sentences::busyCity, "crossing(0)", outside(0, 5), INDEX, (x, what) -> x.crossing(0, what));
            refusedAll(Sentences::busyCity, "crossing(8)", outside(0, 5), INDEX, (x, what) -> x.crossing(8, what));
            refusedAll(Sentences::busyCity, "crossing(9)", outside(0, 5), INDEX, (x, what) -> x.crossing(9, what));
        });
    }

    private static void promise10() {
        holds("Promise 10: what, 0 to 7, each of them its own fact", () -> {
            MudSweepers x = stillCity(20);
            x.come(4, 3);
            x.come(0, 5);
            x.pass(1);
            x.spill(4, 4);
            x.pass(1);
            x.come(4, 8);
            x.pass(1);
            x.buy(0);
            x.spill(8, 30);
            int[] want = {3, 3, 2, 30, 35, 8, 4, 1};
            for (int what = 0; what < 8; what++) {
                due("count(" + what + ")", x.count(what), want[what]);
            }
        });
        holds("Promise 10: 5 crossings with a mud of 5 or less (5 counts, 6 does not; from 9 to 0)", () -> {
            MudSweepers x = new MudSweepers();
            for (int c = 0; c < 9; c++) {
                x.spill(c, 5);
                due("count(5) with 5 at " + c, x.count(5), 9 - c);
                x.spill(c, 1);
                due("count(5) with 6 at " + c, x.count(5), 8 - c);
            }
        });
        holds("Promise 10: 2 pitches that are held (none, and all 8)", () -> {
            MudSweepers x = new MudSweepers();
            for (int i = 0; i < 8; i++) {
                due("count(2)", x.count(2), i);
                x.come(i, 5);
                due("count(2)", x.count(2), i);
                x.pass(1);
            }
            due("count(2)", x.count(2), 8);
        });
        holds("Promise 10: changes nothing", () -> {
            for (int i = 0; i < 8; i++) {
                int what = i;
                changesNothing(Sentences::busyCity, "count(" + what + ")", x -> x.count(what));
            }
        });
        holds("Promise 10: Throws IndexOutOfBoundsException if what is not 0 to 7", () -> {
            refusedAll(Sentences::busyCity, "count", outside(0, 7), INDEX, (x, what) -> x.count(what));
            refusedAll(MudSweepers::new, "count", outside(0, 7), INDEX, (x, what) -> x.count(what));
        });
    }

    private static void promise11() {
        holds("Promise 11: Lets quarters go by (1, and 96)", () -> {
            MudSweepers x = pitchCity(9, 30);
            due("pass(1)", x.pass(1), 15);
            due("count(0)", x.count(0), 2);
            due("pass(96)", x.pass(96), 1440);
            due("count(0)", x.count(0), 98);
            due("pass(95)", x.pass(95), 1425);
            due("count(0)", x.count(0), 193);
        });
        holds("Promise 11: Returns how many pence are paid in them (to all, and none from before)", () -> {
            MudSweepers x = stillCity(20);
            x.come(0, 5);
            x.come(8, 5);
            x.pass(1);
            due("pass(3)", x.pass(3), 60);
            x.buy(0);
            due("pass(2)", x.pass(2), 40);
        });
        holds("Promise 11: many quarters at once go as one by one", () -> {
            MudSweepers x = fullCity();
            MudSweepers y = fullCity();
            int paid = 0;
            for (int t = 0; t < 96; t++) {
                paid += y.pass(1);
            }
            due("pass(96)", x.pass(96), paid);
            same("of 96 quarters", x, y);
        });
        holds("Promise 11: Throws IllegalArgumentException if quarters is not 1 to 96", () -> {
            refusedAll(Sentences::busyCity, "pass", outside(1, 96), ARGUMENT, (x, q) -> x.pass(q));
            refusedAll(MudSweepers::new, "pass", outside(1, 96), ARGUMENT, (x, q) -> x.pass(q));
        });
    }

    private static void promise12() {
        holds("Promise 12: with both of them (once, if they are the same)", () -> {
            MudSweepers x = new MudSweepers();
            for (int c = 0; c < 9; c++) {
                x.spill(c, c + 1);
            }
            for (int c = 0; c < 9; c++) {
                due("way(" + c + ", " + c + ")", x.way(c, c), c + 1);
            }
            due("way(0, 1)", x.way(0, 1), 3);
            due("way(8, 7)", x.way(8, 7), 17);
            due("way(0, 8)", x.way(0, 8), 21);
            due("way(8, 0)", x.way(8, 0), 21);
        });
        holds("Promise 12: over no mud at all, and over the most", () -> {
            MudSweepers x = new MudSweepers();
            due("way(0, 8)", x.way(0, 8), 0);
            for (int c = 0; c < 9; c++) {
                x.spill(c, 50);
            }
            due("way(8, 8)", x.way(8, 8), 50);
            due("way(0, 8)", x.way(0, 8), 250);
            due("way(2, 6)", x.way(2, 6), 250);
            due("way(2, 3)", x.way(2, 3), 200);
        });
        holds("Promise 12: changes nothing", () -> {
            for (int i = 0; i < 81; i++) {
                int ask = i;
                changesNothing(Sentences::busyCity, "way", x -> x.way(ask / 9, ask % 9));
            }
        });
        holds("Promise 12: Throws IndexOutOfBoundsException if from is not 0 to 8",
            () -> refusedAll(Sentences::busyCity, "way", outside(0, 8), INDEX, (x, c) -> x.way(c, 0)));
        holds("Promise 12: Throws IndexOutOfBoundsException if to is not 0 to 8",
            () -> refusedAll(Sentences::busyCity, "way", outside(0, 8), INDEX, (x, c) -> x.way(8, c)));
        holds("Promise 12: Throws IndexOutOfBoundsException if both are not (also if they are the same)",
            () -> refusedAll(Sentences::busyCity, "way", outside(0, 8), INDEX, (x, c) -> x.way(c, c)));
    }

    private static void promise12LongWays() {
        holds("Promise 12: the least mud (also on the longest ways, of 7 crossings)", () -> {
            int[][] walls = {{1, 4, 0, 2}, {3, 4, 0, 6}, {5, 4, 2, 8}, {7, 4, 6, 8}};
            for (int[] wall : walls) {
                MudSweepers x = new MudSweepers();
                for (int c = 0; c < 9; c++) {
                    x.spill(c, c == wall[0] || c == wall[1] ? 50 : 7);
                }
                due("way(" + wall[2] + ", " + wall[3] + ")", x.way(wall[2], wall[3]), 49);
                due("way(" + wall[3] + ", " + wall[2] + ")", x.way(wall[3], wall[2]), 49);
            }
        });
        holds("Promise 12: the least mud (straight on, where that is 1 less than round about)", () -> {
            MudSweepers x = new MudSweepers();
            for (int c = 3; c < 6; c++) {
                x.spill(c, 2);
            }
            x.spill(7, 50);
            x.spill(1, 5);
            due("way(0, 2), straight on", x.way(0, 2), 5);
            x.spill(1, 1);
            due("way(0, 2), as much round about", x.way(0, 2), 6);
            x.spill(1, 1);
            due("way(0, 2), round about", x.way(0, 2), 6);
        });
        holds("Promise 12: the mud as it is now (asked again after it has changed)", () -> {
            MudSweepers x = new MudSweepers();
            due("way(0, 2)", x.way(0, 2), 0);
            x.spill(0, 3);
            x.spill(2, 4);
            due("way(0, 2)", x.way(0, 2), 7);
            x.pass(1);
            due("way(0, 2)", x.way(0, 2), 13);
        });
    }

    private static void promise13() {
        holds("Promise 13: Returns how many pence this one earns in them (in 1, and in 96)", () -> {
            MudSweepers x = pitchCity(9, 30);
            due("earns(0, 1)", x.earns(0, 1), 15);
            due("earns(0, 96)", x.earns(0, 96), 1440);
            x.pass(10);
            due("earns(0, 1) with pence from before", x.earns(0, 1), 15);
            x.send(0, 4);
            due("earns(0, 1) without the pitch", x.earns(0, 1), 0);
            due("earns(0, 2) without the pitch", x.earns(0, 2), 15);
        });
        holds("Promise 13: earns as much as is earned then, if nothing is done", () -> {
            for (int quarters : new int[] {1, 2, 8, 95, 96}) {
                for (int s = 0; s < 8; s++) {
                    MudSweepers x = fullCity();
                    int before = x.sweeper(s, 3);
                    int earns = x.earns(s, quarters);
                    x.pass(quarters);
                    due("earns(" + s + ", " + quarters + ")", earns, x.sweeper(s, 3) - before);
                }
            }
        });
        holds("Promise 13: (nothing is changed)", () -> {
            for (int i = 0; i < 8; i++) {
                int s = i;
                changesNothing(Sentences::fullCity, "earns(" + s + ", 1)", x -> x.earns(s, 1));
                changesNothing(Sentences::fullCity, "earns(" + s + ", 96)", x -> x.earns(s, 96));
            }
        });
        holds("Promise 13: Throws IndexOutOfBoundsException if there is no such sweeper",
            () -> refusedWithoutSweeper("earns", (x, s) -> x.earns(s, 1)));
        holds("Promise 13: Throws IllegalArgumentException if quarters is not 1 to 96",
            () -> refusedAll(Sentences::busyCity, "earns", outside(1, 96), ARGUMENT, (x, q) -> x.earns(3, q)));
        holds("Promise 13: the sweeper's exception is thrown first", () -> {
            refusedWithoutSweeper("earns in 0 quarters", (x, s) -> x.earns(s, 0));
            refusedWithoutSweeper("earns in 97 quarters", (x, s) -> x.earns(s, 97));
        });
    }

    private static void promise14() {
        holds("Promise 14: (nothing is changed)", () -> {
            for (int i = 0; i < 8; i++) {
                int s = i;
                changesNothing(Sentences::fullCity, "advise(" + s + ", 1)", x -> x.advise(s, 1));
                changesNothing(Sentences::fullCity, "advise(" + s + ", 96)", x -> x.advise(s, 96));
            }
        });
        holds("Promise 14: Throws IndexOutOfBoundsException if there is no such sweeper",
            () -> refusedWithoutSweeper("advise", (x, s) -> x.advise(s, 1)));
        holds("Promise 14: Throws IllegalArgumentException if quarters is not 1 to 96",
            () -> refusedAll(Sentences::busyCity, "advise", outside(1, 96), ARGUMENT, (x, q) -> x.advise(3, q)));
        holds("Promise 14: the sweeper's exception is thrown first", () -> {
            refusedWithoutSweeper("advise for 0 quarters", (x, s) -> x.advise(s, 0));
            refusedWithoutSweeper("advise for 97 quarters", (x, s) -> x.advise(s, 97));
        });
    }

    private static void promise14Most() {
        holds("Promise 14: so as to earn the most in them (each crossing can be the one)", () -> {
            for (int c = 0; c < 9; c++) {
                MudSweepers x = stillCity(10);
                x.set(c, 0, 12);
                x.come((c + 4) % 9, 5);
                x.pass(1);
                due("advise(0, 96)", x.advise(0, 96), c);
            }
        });
        holds("Promise 14: of several the one with the smallest number", () -> {
            for (int c = 0; c < 8; c++) {
                MudSweepers x = stillCity(0);
                for (int more = c; more < 9; more++) {
                    x.set(more, 0, 20);
                }
                x.come(8, 5);
                x.come(8, 6);
                x.pass(1);
                due("advise(0, 2), where " + c + " to 8 are the same", x.advise(0, 2), c);
            }
        });
        holds("Promise 14: of several the one with the smallest number (a later one must bring more)", () -> {
            MudSweepers x = pitchCity(5, 0);
            x.set(2, 0, 20);
            x.set(6, 0, 21);
            due("advise(0, 9) with 20 and 21 walkers", x.advise(0, 9), 2);
            x.set(6, 0, 22);
            due("advise(0, 9) with 20 and 22 walkers", x.advise(0, 9), 6);
        });
        holds("Promise 14: -1 if by none more is earned than by not being sent", () -> {
            MudSweepers x = pitchCity(5, 10);
            x.set(7, 0, 12);
            due("advise(0, 1), all less", x.advise(0, 1), -1);
            due("advise(0, 5), 1 less", x.advise(0, 5), -1);
            due("advise(0, 6), as much", x.advise(0, 6), -1);
            due("advise(0, 7), 1 more", x.advise(0, 7), 7);
            due("advise(0, 96)", x.advise(0, 96), 7);
        });
        holds("Promise 14: -1 if by none more is earned (where nothing is earned at all)", () -> {
            MudSweepers x = stillCity(0);
            x.come(4, 5);
            due("advise(0, 1)", x.advise(0, 1), -1);
            due("advise(0, 96)", x.advise(0, 96), -1);
        });
    }

    /**
     * The sweeper of strength 7 holds 4, where two quarters of heavy rain bring the mud to 50 again whether it is swept
     * before or not. Who is sent to the own crossing saves one wear of the broom: sweeps 12, 11, 11 and 11 then, which
     * leaves 5, not 11, 11, 11 and 11, which leaves 6: 15 pence, not 6.
     */
    private static void promise14OwnCrossing() {
        holds("Promise 14: (also the own one)", () -> {
            MudSweepers x = pitchCity(7, 30);
            x.spill(4, 50);
            x.setRain(2, 9);
            x.setRain(3, 9);
            due("earns(0, 7)", x.earns(0, 7), 6);
            due("advise(0, 7)", x.advise(0, 7), 4);
            due("advise(0, 6)", x.advise(0, 6), -1);
            x.send(0, 4);
            due("earns(0, 7) after being sent", x.earns(0, 7), 15);
            due("advise(0, 7) after being sent", x.advise(0, 7), -1);
        });
    }

    private static void promise15() {
        holds("Promise 15: foresees as much as is then, if nothing is done (in 1 to 96 quarters)", () -> {
            for (int quarters : new int[] {1, 2, 8, 95, 96}) {
                MudSweepers x = fullCity();
                int pence = x.foresee(quarters, 0);
                int mud = x.foresee(quarters, 1);
                int held = x.foresee(quarters, 2);
                due("foresee(" + quarters + ", 0)", pence, x.pass(quarters));
                due("foresee(" + quarters + ", 1)", mud, x.count(3));
                due("foresee(" + quarters + ", 2)", held, x.count(2));
            }
        });
        holds("Promise 15: what, 0 to 2, each of them its own fact", () -> {
            MudSweepers x = pitchCity(1, 20);
            x.come(0, 3);
            x.spill(4, 16);
            x.pass(1);
            x.set(8, 3, 0);
            due("foresee(2, 0)", x.foresee(2, 0), 20);
            due("foresee(2, 1)", x.foresee(2, 1), 6);
            due("foresee(2, 2)", x.foresee(2, 2), 2);
        });
        holds("Promise 15: in a city without sweepers", () -> {
            MudSweepers x = new MudSweepers();
            due("foresee(96, 0)", x.foresee(96, 0), 0);
            due("foresee(96, 1)", x.foresee(96, 1), 450);
            due("foresee(1, 1)", x.foresee(1, 1), 18);
            due("foresee(96, 2)", x.foresee(96, 2), 0);
        });
        holds("Promise 15: (nothing is changed)", () -> {
            for (int i = 0; i < 3; i++) {
                int what = i;
                changesNothing(Sentences::fullCity, "foresee(1, " + what + ")", x -> x.foresee(1, what));
                changesNothing(Sentences::fullCity, "foresee(96, " + what + ")", x -> x.foresee(96, what));
            }
        });
        holds("Promise 15: Throws IllegalArgumentException if quarters is not 1 to 96", () -> {
            for (int i = 0; i < 3; i++) {
                int what = i;
                refusedAll(Sentences::busyCity, "foresee", outside(1, 96), ARGUMENT, (x, q) -> x.foresee(q, what));
            }
        });
        holds("Promise 15: Throws IndexOutOfBoundsException if what is not 0 to 2", () -> {
            refusedAll(Sentences::busyCity, "foresee", outside(0, 2), INDEX, (x, what) -> x.foresee(1, what));
            refusedAll(Sentences::busyCity, "foresee", outside(0, 2), INDEX, (x, what) -> x.foresee(96, what));
        });
        holds("Promise 15: the exception of the quarters is thrown first", () -> {
            refusedAll(Sentences::busyCity, "foresee", outside(1, 96), ARGUMENT, (x, q) -> x.foresee(q, -1));
            refusedAll(Sentences::busyCity, "foresee", outside(1, 96), ARGUMENT, (x, q) -> x.foresee(q, 3));
        });
    }

    private static void promise16() {
        holds("Promise 16: Returns the mean mud of all crossings (no mud, the most, and what is not whole)", () -> {
            MudSweepers x = new MudSweepers();
            due("mean()", x.mean(), 0.0);
            x.spill(8, 1);
            due("mean()", x.mean(), 1 / 9.0);
            x.spill(0, 7);
            due("mean()", x.mean(), 8 / 9.0);
            x.spill(4, 1);
            due("mean()", x.mean(), 1.0);
            for (int c = 0; c < 9; c++) {
                x.spill(c, 50);
            }
            due("mean()", x.mean(), 50.0);
        });
        holds("Promise 16: changes nothing", () -> changesNothing(Sentences::fullCity, "mean()", x -> x.mean()));
    }

    /** The checksum of written numbers, over numbers of any length, cut to 64 bits at the end alone. */
    private static long checksum(int... numbers) {
        BigInteger d = BigInteger.valueOf(1033);
        for (int x : numbers) {
            d = d.multiply(BigInteger.valueOf(31)).add(BigInteger.valueOf(x));
        }
        return d.longValue();
    }

    private static void promise17() {
        holds("Promise 17: d becomes d * 31 + x, which wraps around as a 64-bit integer (a new city)", () -> {
            MudSweepers x = new MudSweepers();
            dueLong("digest()", x.digest(), checksum(0, 0, 0, 0, 0, 9, 0, 0,
                0, 2, 10, -1, 0, 0, 0, 2, 10, -1, 0, 0, 0, 2, 10, -1, 0, 0,
                0, 2, 10, -1, 0, 0, 0, 2, 10, -1, 0, 0, 0, 2, 10, -1, 0, 0,
                0, 2, 10, -1, 0, 0, 0, 2, 10, -1, 0, 0, 0, 2, 10, -1, 0, 0,
                0, 0, 0, 0, 0, 0, 0, 0));
        });
        holds("Promise 17: for each sweeper what sweeper() tells (of one, and of none who has not come)", () -> {
            MudSweepers x = pitchCity(3, 20);
            x.setRain(0, 1);
            x.setRain(7, 9);
            x.pass(1);
            dueLong("digest()", x.digest(), checksum(2, 1, 1, 0, 10, 9, 0, 0,
                0, 0, 0, -1, 0, 0, 0, 0, 0, -1, 0, 0, 0, 0, 0, -1, 0, 0,
                0, 0, 0, -1, 0, 0, 0, 0, 20, 0, 1, 10, 0, 0, 0, -1, 0, 0,
                0, 0, 0, -1, 0, 0, 0, 0, 0, -1, 0, 0, 0, 0, 0, -1, 0, 0,
                1, 0, 0, 0, 0, 0, 0, 9,
                4, 3, 39, 10, 1, 0, 0, 7));
        });
        holds("Promise 17: for each sweeper what sweeper() tells (of all 8)", () -> {
            MudSweepers x = fullCity();
            long[] told = told(x);
            int[] numbers = new int[134];
            for (int i = 0; i < 134; i++) {
                numbers[i] = (int) told[i];
            }
            dueLong("digest()", x.digest(), checksum(numbers));
        });
        holds("Promise 17: changes nothing", () -> changesNothing(Sentences::fullCity, "digest()", x -> x.digest()));
    }
}
