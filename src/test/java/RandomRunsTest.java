import java.util.ArrayList;
import java.util.List;

/** Long mixed runs of calls, right and wrong ones, against a second city written from the document in another way. */
public final class RandomRunsTest {
    private static final int RUNS = 400;
    private static final int CALLS = 150;
    private static int wrong = 0;

    interface Call {
        double answer();
    }

    public static void main(String[] args) {
        for (int run = 1; run <= RUNS; run++) {
            oneRun(run);
        }
        System.out.println(wrong == 0 ? "all answers are as due" : wrong + " answers are not as due");
        if (wrong != 0) {
            System.exit(1);
        }
    }

    private static void oneRun(int run) {
        Dice dice = new Dice(run);
        MudSweepers x = new MudSweepers();
        Model y = new Model();
        for (int i = 1; i <= CALLS && wrong < 20; i++) {
            int kind = dice.below(22);
            int a = dice.near(dice.below(2) == 0 ? 8 : 3);
            int b = dice.near(dice.below(2) == 0 ? 9 : 30);
            int c = dice.near(dice.below(2) == 0 ? 12 : 30);
            int q = dice.below(15) == 0 ? dice.near(96) : dice.near(14);
            String call = "run " + run + " call " + i + " kind " + kind + " (" + a + ", " + b + ", " + c + ", " + q + ")";
            same(call, outcome(() -> ask(x, kind, a, b, c, q)), outcome(() -> y.ask(kind, a, b, c, q)));
            if (x.digest() != y.digest()) {
                wrong++;
                System.out.println(call + ": digest " + x.digest() + ", due is " + y.digest());
                return;
            }
        }
    }

    private static void same(String call, String got, String want) {
        if (!got.equals(want)) {
            wrong++;
            System.out.println(call + " answered " + got + ", due is " + want);
        }
    }

    private static String outcome(Call call) {
        try {
            return String.valueOf(call.answer());
        } catch (RuntimeException e) {
            return e.getClass().getSimpleName();
        }
    }

    private static double ask(MudSweepers x, int kind, int a, int b, int c, int q) {
        switch (kind) {
            case 0: case 1: return x.set(a, b, c);
            case 2: return x.setRain(a, b);
            case 3: case 4: return x.spill(a, c);
            case 5: case 6: return x.come(a, b);
            case 7: return x.send(a, b);
            case 8: return x.buy(a);
            case 9: return x.sweeper(a, b);
            case 10: return x.crossing(a, b);
            case 11: return x.count(a);
            case 12: case 13: case 14: return x.pass(q);
            case 15: case 16: return x.way(a, b);
            case 17: return x.earns(a, q);
            case 18: case 19: return x.advise(a, q);
            case 20: return x.foresee(q, a);
            default: return x.mean();
        }
    }

    /** A plain congruential row of numbers, the same in every run of the test. */
    static final class Dice {
        private long state;

        Dice(long seed) {
            state = seed * 7919 + 17;
        }

        int below(int n) {
            state = state * 6364136223846793005L + 1442695040888963407L;
            return (int) ((state >>> 33) % n);
        }

        /** Mostly 0 to most, sometimes a little or far beyond. */
        int near(int most) {
            switch (below(40)) {
                case 0: return -1;
                case 1: return most + 1;
                case 2: return below(2) == 0 ? Integer.MIN_VALUE : Integer.MAX_VALUE;
                default: return below(most + 1);
            }
        }
    }

    static final class Man {
        int number;
        Street at;
        int strength;
        int broom = 40;
        int pence;
        int swept;
        int driven;

        boolean holds() {
            return at.holder == this;
        }
    }

    static final class Street {
        int row;
        int column;
        int mud;
        int carriages = 2;
        int walkers = 10;
        Man holder;
        int paid;
    }

    static final class Model {
        final List<Street> streets = new ArrayList<>();
        final List<Man> men = new ArrayList<>();
        int[] rain = new int[8];
        int time;

        Model() {
            for (int i = 0; i < 9; i++) {
                Street s = new Street();
                s.row = i / 3;
                s.column = i % 3;
                streets.add(s);
            }
        }

        Model twin() {
            Model t = new Model();
            t.rain = rain.clone();
            t.time = time;
            for (Man m : men) {
                Man n = new Man();
                n.number = m.number;
                n.at = t.streets.get(streets.indexOf(m.at));
                n.strength = m.strength;
                n.broom = m.broom;
                n.pence = m.pence;
                n.swept = m.swept;
                n.driven = m.driven;
                t.men.add(n);
            }
            for (int i = 0; i < 9; i++) {
                Street s = streets.get(i);
                Street u = t.streets.get(i);
                u.mud = s.mud;
                u.carriages = s.carriages;
                u.walkers = s.walkers;
                u.paid = s.paid;
                u.holder = s.holder == null ? null : t.men.get(s.holder.number);
            }
            return t;
        }

        double ask(int kind, int a, int b, int c, int q) {
            switch (kind) {
                case 0: case 1: return set(a, b, c);
                case 2: return setRain(a, b);
                case 3: case 4: return spill(a, c);
                case 5: case 6: return come(a, b);
                case 7: return send(a, b);
                case 8: return buy(a);
                case 9: return sweeper(a, b);
                case 10: return crossing(a, b);
                case 11: return count(a);
                case 12: case 13: case 14: return pass(q);
                case 15: case 16: return way(a, b);
                case 17: return earns(a, q);
                case 18: case 19: return advise(a, q);
                case 20: return foresee(q, a);
                default: return streets.stream().mapToInt(s -> s.mud).sum() / 9.0;
            }
        }

        static void index(int value, int least, int most) {
            if (value < least || value > most) {
                throw new IndexOutOfBoundsException();
            }
        }

        static void argument(int value, int least, int most) {
            if (value < least || value > most) {
                throw new IllegalArgumentException();
            }
        }

        int set(int c, int carriages, int walkers) {
            index(c, 0, 8);
            argument(carriages, 0, 9);
            argument(walkers, 0, 30);
            Street s = streets.get(c);
            int old = 100 * s.carriages + s.walkers;
            s.carriages = carriages;
            s.walkers = walkers;
            return old;
        }

        int setRain(int quarter, int r) {
            index(quarter, 0, 7);
            argument(r, 0, 9);
            int old = rain[quarter];
            rain[quarter] = r;
            return old;
        }

        int spill(int c, int mud) {
            index(c, 0, 8);
            argument(mud, 1, 50);
            Street s = streets.get(c);
            s.mud += mud;
            if (s.mud > 50) {
                s.mud = 50;
            }
            return s.mud;
        }

        int come(int c, int strength) {
            index(c, 0, 8);
            argument(strength, 1, 9);
            if (men.size() == 8) {
                throw new IllegalStateException();
            }
            Man m = new Man();
            m.number = men.size();
            m.at = streets.get(c);
            m.strength = strength;
            men.add(m);
            return m.number;
        }

        Man man(int number) {
            index(number, 0, men.size() - 1);
            return men.get(number);
        }

        int send(int number, int c) {
            Man m = man(number);
            index(c, 0, 8);
            int old = streets.indexOf(m.at);
            if (m.holds()) {
                m.at.holder = null;
            }
            m.at = streets.get(c);
            return old;
        }

        int buy(int number) {
            Man m = man(number);
            if (m.pence < 5) {
                throw new IllegalStateException();
            }
            m.broom = 40;
            return m.pence -= 5;
        }

        int sweeper(int number, int what) {
            Man m = man(number);
            index(what, 0, 7);
            return new int[] {streets.indexOf(m.at), m.strength, m.broom, m.pence, m.holds() ? 1 : 0, m.swept, m.driven,
                m.strength + m.broom / 8}[what];
        }

        int crossing(int c, int what) {
            index(c, 0, 8);
            index(what, 0, 5);
            Street s = streets.get(c);
            int at = (int) men.stream().filter(m -> m.at == s).count();
            return new int[] {s.mud, s.carriages, s.walkers, s.holder == null ? -1 : s.holder.number, at, s.paid}[what];
        }

        int count(int what) {
            index(what, 0, 7);
            return new int[] {time, men.size(), (int) streets.stream().filter(s -> s.holder != null).count(),
                streets.stream().mapToInt(s -> s.mud).sum(), men.stream().mapToInt(m -> m.pence).sum(),
                (int) streets.stream().filter(s -> s.mud <= 5).count(), men.stream().mapToInt(m -> m.swept).sum(),
                men.stream().mapToInt(m -> m.driven).sum()}[what];
        }

        int pass(int quarters) {
            argument(quarters, 1, 96);
            int all = 0;
            while (quarters-- > 0) {
                all += quarter();
            }
            return all;
        }

        int quarter() {
            int wet = rain[time % 8];
            int all = 0;
            for (Street s : streets) {
                s.mud = s.mud + s.carriages + wet > 50 ? 50 : s.mud + s.carriages + wet;
                if (s.holder == null || wet >= 6) {
                    continue;
                }
                Man m = s.holder;
                for (int i = m.strength + m.broom / 8; i > 0 && s.mud > 0; i--) {
                    s.mud--;
                    m.swept++;
                }
                if (m.broom > 0) {
                    m.broom--;
                }
                int coins = s.mud > 15 ? 0 : s.walkers / (s.mud > 5 ? 5 : 2);
                m.pence += coins;
                s.paid += coins;
                all += coins;
            }
            for (Man m : men) {
                if (m.holds()) {
                    continue;
                }
                if (m.at.holder != null && m.at.holder.strength >= m.strength) {
                    m.at = next(m.at);
                    continue;
                }
                if (m.at.holder != null) {
                    m.at.holder.driven++;
                }
                m.at.holder = m;
            }
            time++;
            return all;
        }

        List<Street> around(Street s) {
            List<Street> found = new ArrayList<>();
            int[][] steps = {{0, -1}, {0, 1}, {-1, 0}, {1, 0}};
            for (int[] step : steps) {
                for (Street t : streets) {
                    if (t.row == s.row + step[0] && t.column == s.column + step[1]) {
                        found.add(t);
                    }
                }
            }
            return found;
        }

        Street next(Street s) {
            List<Street> found = around(s);
            int most = found.stream().mapToInt(t -> t.walkers).max().getAsInt();
            return found.stream().filter(t -> t.walkers == most).findFirst().get();
        }

        int way(int from, int to) {
            index(from, 0, 8);
            index(to, 0, 8);
            return walk(streets.get(from), streets.get(to), new ArrayList<>());
        }

        int walk(Street here, Street to, List<Street> seen) {
            if (here == to) {
                return here.mud;
            }
            seen.add(here);
            int least = 100000;
            for (Street t : around(here)) {
                if (!seen.contains(t)) {
                    least = Math.min(least, here.mud + walk(t, to, seen));
                }
            }
            seen.remove(here);
            return least;
        }

        int earns(int number, int quarters) {
            Man m = man(number);
            argument(quarters, 1, 96);
            Model t = twin();
            t.pass(quarters);
            return t.men.get(number).pence - m.pence;
        }

        int advise(int number, int quarters) {
            int unsent = earns(number, quarters);
            int[] sent = new int[9];
            int most = unsent;
            for (int c = 0; c < 9; c++) {
                Model t = twin();
                t.send(number, c);
                sent[c] = t.earns(number, quarters);
                most = Math.max(most, sent[c]);
            }
            for (int c = 0; c < 9 && most > unsent; c++) {
                if (sent[c] == most) {
                    return c;
                }
            }
            return -1;
        }

        int foresee(int quarters, int what) {
            argument(quarters, 1, 96);
            index(what, 0, 2);
            Model t = twin();
            int paid = t.pass(quarters);
            return what == 0 ? paid : t.count(what == 1 ? 3 : 2);
        }

        long digest() {
            List<Integer> told = new ArrayList<>();
            for (int what = 0; what < 8; what++) {
                told.add(count(what));
            }
            for (int i = 0; i < 54; i++) {
                told.add(crossing(i / 6, i % 6));
            }
            for (int r : rain) {
                told.add(r);
            }
            for (int i = 0; i < 8 * men.size(); i++) {
                told.add(sweeper(i / 8, i % 8));
            }
            return told.stream().mapToLong(Integer::longValue).reduce(1033L, (d, x) -> d * 31 + x);
        }
    }
}
