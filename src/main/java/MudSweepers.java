/** Crossing sweepers of a city: mud, rain, pitches, and who earns what on them. */
public final class MudSweepers {
    private static final int CROSSINGS = 9;
    private static final int SIDE = 3;
    private static final int DIRECTIONS = 4;
    private static final int TABLE_QUARTERS = 8;
    private static final int MOST_SWEEPERS = 8;
    private static final int MOST_MUD = 50;
    private static final int MOST_CARRIAGES = 9;
    private static final int MOST_WALKERS = 30;
    private static final int MOST_RAIN = 9;
    private static final int MOST_STRENGTH = 9;
    private static final int HEAVY_RAIN = 6;
    private static final int MOST_QUARTERS = 96;
    private static final int NEW_BROOM = 40;
    private static final int BROOM_PRICE = 5;
    private static final int CLEAN_MUD = 5;
    private static final int PASSABLE_MUD = 15;
    private static final int NONE = -1;
    private static final int FAR = 1000000;
    private static final int SWEEPER_FACTS = 8;
    private static final int CROSSING_FACTS = 6;
    private static final int CITY_FACTS = 8;
    private static final int FORESEEN_FACTS = 3;
    private static final long DIGEST_START = 1033L;

    private final City city;
    // Made once: the questions about what would be are asked often, and a new city for each would fill the room.
    private final City trial;
    private final int[] leastMud;

    public MudSweepers() {
        city = new City();
        trial = new City();
        leastMud = new int[CROSSINGS];
    }

    // ---- the city

    public int set(int crossing, int carriages, int walkers) throws IndexOutOfBoundsException, IllegalArgumentException {
        needCrossing(crossing);
        if (carriages < 0 || carriages > MOST_CARRIAGES) {
            throw new IllegalArgumentException("carriages are 0 to 9");
        }
        if (walkers < 0 || walkers > MOST_WALKERS) {
            throw new IllegalArgumentException("walkers are 0 to 30");
        }
        int before = 100 * city.carriages[crossing] + city.walkers[crossing];
        city.carriages[crossing] = carriages;
        city.walkers[crossing] = walkers;
        return before;
    }

    public int setRain(int quarter, int rain) throws IndexOutOfBoundsException, IllegalArgumentException {
        if (quarter < 0 || quarter >= TABLE_QUARTERS) {
            throw new IndexOutOfBoundsException("a quarter of the table is 0 to 7");
        }
        if (rain < 0 || rain > MOST_RAIN) {
            throw new IllegalArgumentException("rain is 0 to 9");
        }
        int before = city.rain[quarter];
        city.rain[quarter] = rain;
        return before;
    }

    public int spill(int crossing, int mud) throws IndexOutOfBoundsException, IllegalArgumentException {
        needCrossing(crossing);
        if (mud < 1 || mud > MOST_MUD) {
            throw new IllegalArgumentException("mud to be thrown is 1 to 50");
        }
        city.addMud(crossing, mud);
        return city.mud[crossing];
    }

    // ---- sweepers

    public int come(int crossing, int strength) throws IndexOutOfBoundsException, IllegalArgumentException, IllegalStateException {
        needCrossing(crossing);
        if (strength < 1 || strength > MOST_STRENGTH) {
            throw new IllegalArgumentException("strength is 1 to 9");
        }
        if (city.sweepers < 0 || city.sweepers >= MOST_SWEEPERS) {
            throw new IllegalStateException("there are 8 sweepers");
        }
        return city.admit(crossing, strength);
    }

    public int send(int sweeper, int crossing) throws IndexOutOfBoundsException {
        needSweeper(sweeper);
        needCrossing(crossing);
        int before = city.place[sweeper];
        city.moveTo(sweeper, crossing);
        return before;
    }

    public int buy(int sweeper) throws IndexOutOfBoundsException, IllegalStateException {
        needSweeper(sweeper);
        if (city.pence[sweeper] < BROOM_PRICE) {
            throw new IllegalStateException("a broom costs 5 pence");
        }
        city.pence[sweeper] -= BROOM_PRICE;
        city.broom[sweeper] = NEW_BROOM;
        return city.pence[sweeper];
    }

    public int sweeper(int sweeper, int what) throws IndexOutOfBoundsException {
        needSweeper(sweeper);
        needFact(what, SWEEPER_FACTS);
        return city.sweeperFact(sweeper, what);
    }

    public int crossing(int crossing, int what) throws IndexOutOfBoundsException {
        needCrossing(crossing);
        needFact(what, CROSSING_FACTS);
        return city.crossingFact(crossing, what);
    }

    public int count(int what) throws IndexOutOfBoundsException {
        needFact(what, CITY_FACTS);
        return city.cityFact(what);
    }

    // ---- quarters

    public int pass(int quarters) throws IllegalArgumentException {
        needQuarters(quarters);
        return city.live(quarters);
    }

    // ---- what would be

    public int way(int from, int to) throws IndexOutOfBoundsException {
        needCrossing(from);
        needCrossing(to);
        for (int c = 0; c < CROSSINGS; c++) {
            leastMud[c] = FAR;
        }
        leastMud[from] = city.mud[from];
        // The cleanest way enters no crossing twice, so it is known after as many rounds as it can have steps.
        for (int round = 1; round < CROSSINGS; round++) {
            shortenWays();
        }
        return leastMud[to];
    }

    public int earns(int sweeper, int quarters) throws IndexOutOfBoundsException, IllegalArgumentException {
        needSweeper(sweeper);
        needQuarters(quarters);
        return earned(sweeper, NONE, quarters);
    }

    public int advise(int sweeper, int quarters) throws IndexOutOfBoundsException, IllegalArgumentException {
        needSweeper(sweeper);
        needQuarters(quarters);
        int best = NONE;
        int most = earned(sweeper, NONE, quarters);
        for (int c = 0; c < CROSSINGS; c++) {
            int pence = earned(sweeper, c, quarters);
            if (pence > most) {
                most = pence;
                best = c;
            }
        }
        return best;
    }

    public int foresee(int quarters, int what) throws IllegalArgumentException, IndexOutOfBoundsException {
        needQuarters(quarters);
        needFact(what, FORESEEN_FACTS);
        trial.copyFrom(city);
        int paid = trial.live(quarters);
        if (what == 0) {
            return paid;
        }
        return what == 1 ? trial.allMud() : trial.heldPitches();
    }

    public double mean() {
        return (double) city.allMud() / (double) CROSSINGS;
    }

    public long digest() {
        long d = DIGEST_START;
        for (int what = 0; what < CITY_FACTS; what++) {
            d = d * 31L + city.cityFact(what);
        }
        for (int c = 0; c < CROSSINGS; c++) {
            for (int what = 0; what < CROSSING_FACTS; what++) {
                d = d * 31L + city.crossingFact(c, what);
            }
        }
        for (int q = 0; q < TABLE_QUARTERS; q++) {
            d = d * 31L + city.rain[q];
        }
        for (int s = 0; s < MOST_SWEEPERS && s < city.sweepers; s++) {
            for (int what = 0; what < SWEEPER_FACTS; what++) {
                d = d * 31L + city.sweeperFact(s, what);
            }
        }
        return d;
    }

    // ---- helpers

    private static boolean isCrossing(int crossing) {
        return crossing >= 0 && crossing < CROSSINGS;
    }

    private static void needCrossing(int crossing) {
        if (!isCrossing(crossing)) {
            throw new IndexOutOfBoundsException("a crossing is 0 to 8");
        }
    }

    private void needSweeper(int sweeper) {
        if (!city.isSweeper(sweeper)) {
            throw new IndexOutOfBoundsException("there is no such sweeper");
        }
    }

    private static void needFact(int what, int facts) {
        if (what < 0 || what >= facts) {
            throw new IndexOutOfBoundsException("nothing is told under this number");
        }
    }

    private static void needQuarters(int quarters) {
        if (quarters < 1 || quarters > MOST_QUARTERS) {
            throw new IllegalArgumentException("quarters are 1 to 96");
        }
    }

    /** The neighbour to the left (0), to the right (1), above (2) or below (3), or NONE. */
    private static int neighbour(int crossing, int direction) {
        switch (direction) {
            case 0:
                return crossing % SIDE > 0 ? crossing - 1 : NONE;
            case 1:
                return crossing % SIDE < SIDE - 1 ? crossing + 1 : NONE;
            case 2:
                return crossing >= SIDE ? crossing - SIDE : NONE;
            default:
                return crossing < CROSSINGS - SIDE ? crossing + SIDE : NONE;
        }
    }

    private void shortenWays() {
        for (int c = 0; c < CROSSINGS; c++) {
            for (int direction = 0; direction < DIRECTIONS; direction++) {
                int n = neighbour(c, direction);
                if (isCrossing(n) && leastMud[n] + city.mud[c] < leastMud[c]) {
                    leastMud[c] = leastMud[n] + city.mud[c];
                }
            }
        }
    }

    /** What a sweeper would earn after being sent to a crossing, or unsent if that is NONE. */
    private int earned(int sweeper, int sentTo, int quarters) {
        if (!city.isSweeper(sweeper)) {
            return 0;
        }
        trial.copyFrom(city);
        if (isCrossing(sentTo)) {
            trial.moveTo(sweeper, sentTo);
        }
        int before = trial.pence[sweeper];
        trial.live(quarters);
        return trial.pence[sweeper] - before;
    }

    /** All that changes from call to call, so that a copy of it can live through quarters that are only asked for. */
    private static final class City {
        private final int[] mud = new int[CROSSINGS];
        private final int[] carriages = new int[CROSSINGS];
        private final int[] walkers = new int[CROSSINGS];
        private final int[] holder = new int[CROSSINGS];
        private final int[] paid = new int[CROSSINGS];
        private final int[] rain = new int[TABLE_QUARTERS];
        private final int[] place = new int[MOST_SWEEPERS];
        private final int[] strength = new int[MOST_SWEEPERS];
        private final int[] broom = new int[MOST_SWEEPERS];
        private final int[] pence = new int[MOST_SWEEPERS];
        private final int[] swept = new int[MOST_SWEEPERS];
        private final int[] drivenOff = new int[MOST_SWEEPERS];
        private int sweepers;
        private int quarter;

        City() {
            for (int c = 0; c < CROSSINGS; c++) {
                carriages[c] = 2;
                walkers[c] = 10;
                holder[c] = NONE;
            }
        }

        void copyFrom(City other) {
            if (other == null) {
                return;
            }
            System.arraycopy(other.mud, 0, mud, 0, CROSSINGS);
            System.arraycopy(other.carriages, 0, carriages, 0, CROSSINGS);
            System.arraycopy(other.walkers, 0, walkers, 0, CROSSINGS);
            System.arraycopy(other.holder, 0, holder, 0, CROSSINGS);
            System.arraycopy(other.paid, 0, paid, 0, CROSSINGS);
            System.arraycopy(other.rain, 0, rain, 0, TABLE_QUARTERS);
            System.arraycopy(other.place, 0, place, 0, MOST_SWEEPERS);
            System.arraycopy(other.strength, 0, strength, 0, MOST_SWEEPERS);
            System.arraycopy(other.broom, 0, broom, 0, MOST_SWEEPERS);
            System.arraycopy(other.pence, 0, pence, 0, MOST_SWEEPERS);
            System.arraycopy(other.swept, 0, swept, 0, MOST_SWEEPERS);
            System.arraycopy(other.drivenOff, 0, drivenOff, 0, MOST_SWEEPERS);
            sweepers = other.sweepers;
            quarter = other.quarter;
        }

        boolean isSweeper(int s) {
            return s >= 0 && s < MOST_SWEEPERS && s < sweepers;
        }

        boolean holdsPitch(int s) {
            return isSweeper(s) && isCrossing(place[s]) && holder[place[s]] == s;
        }

        int reach(int s) {
            return isSweeper(s) ? strength[s] + broom[s] / 8 : 0;
        }

        void addMud(int c, int more) {
            if (isCrossing(c)) {
                mud[c] = Math.min(MOST_MUD, mud[c] + more);
            }
        }

        int admit(int c, int newStrength) {
            int s = sweepers;
            if (s < 0 || s >= MOST_SWEEPERS) {
                return NONE;
            }
            place[s] = c;
            strength[s] = newStrength;
            broom[s] = NEW_BROOM;
            sweepers = s + 1;
            return s;
        }

        /** Also a sweeper who is sent to the own crossing loses its pitch. */
        void moveTo(int s, int c) {
            if (!isSweeper(s)) {
                return;
            }
            int old = place[s];
            if (isCrossing(old) && holder[old] == s) {
                holder[old] = NONE;
            }
            place[s] = c;
        }

        // ---- how quarters go

        /** Lets quarters go by and tells the pence that are paid in them. */
        int live(int quarters) {
            int all = 0;
            for (int q = 0; q < MOST_QUARTERS && q < quarters; q++) {
                all += liveQuarter();
            }
            return all;
        }

        private int liveQuarter() {
            int row = quarter % TABLE_QUARTERS;
            int wet = row >= 0 && row < TABLE_QUARTERS ? rain[row] : 0;
            for (int c = 0; c < CROSSINGS; c++) {
                addMud(c, carriages[c] + wet);
            }
            int all = 0;
            if (wet < HEAVY_RAIN) {
                sweepAll();
                all = payAll();
            }
            for (int s = 0; s < MOST_SWEEPERS && s < sweepers; s++) {
                if (!holdsPitch(s)) {
                    seekPitch(s);
                }
            }
            quarter++;
            return all;
        }

        private void sweepAll() {
            for (int s = 0; s < MOST_SWEEPERS && s < sweepers; s++) {
                int c = place[s];
                if (isCrossing(c) && holder[c] == s) {
                    int away = Math.min(mud[c], reach(s));
                    mud[c] -= away;
                    swept[s] += away;
                    broom[s] = Math.max(0, broom[s] - 1);
                }
            }
        }

        private int payAll() {
            int all = 0;
            for (int c = 0; c < CROSSINGS; c++) {
                int h = holder[c];
                if (isSweeper(h)) {
                    int coins = wage(c);
                    pence[h] += coins;
                    paid[c] += coins;
                    all += coins;
                }
            }
            return all;
        }

        private int wage(int c) {
            if (!isCrossing(c) || mud[c] > PASSABLE_MUD) {
                return 0;
            }
            return mud[c] <= CLEAN_MUD ? walkers[c] / 2 : walkers[c] / 5;
        }

        private void seekPitch(int s) {
            if (!isSweeper(s) || !isCrossing(place[s])) {
                return;
            }
            int c = place[s];
            int h = holder[c];
            if (!isSweeper(h)) {
                holder[c] = s;
            } else if (strength[h] < strength[s]) {
                drivenOff[h]++;
                holder[c] = s;
            } else {
                place[s] = busiestNeighbour(c);
            }
        }

        private int busiestNeighbour(int c) {
            int best = c;
            int most = NONE;
            for (int direction = 0; direction < DIRECTIONS; direction++) {
                int n = neighbour(c, direction);
                if (isCrossing(n) && walkers[n] > most) {
                    most = walkers[n];
                    best = n;
                }
            }
            return best;
        }

        // ---- what is told

        int sweeperFact(int s, int what) {
            if (!isSweeper(s)) {
                return 0;
            }
            switch (what) {
                case 0:
                    return place[s];
                case 1:
                    return strength[s];
                case 2:
                    return broom[s];
                case 3:
                    return pence[s];
                case 4:
                    return holdsPitch(s) ? 1 : 0;
                case 5:
                    return swept[s];
                case 6:
                    return drivenOff[s];
                default:
                    return reach(s);
            }
        }

        int crossingFact(int c, int what) {
            if (!isCrossing(c)) {
                return 0;
            }
            switch (what) {
                case 0:
                    return mud[c];
                case 1:
                    return carriages[c];
                case 2:
                    return walkers[c];
                case 3:
                    return holder[c];
                case 4:
                    return sweepersAt(c);
                default:
                    return paid[c];
            }
        }

        int cityFact(int what) {
            switch (what) {
                case 0:
                    return quarter;
                case 1:
                    return sweepers;
                case 2:
                    return heldPitches();
                case 3:
                    return allMud();
                case 4:
                    return sum(pence);
                case 5:
                    return cleanCrossings();
                case 6:
                    return sum(swept);
                default:
                    return sum(drivenOff);
            }
        }

        int allMud() {
            return sum(mud);
        }

        int heldPitches() {
            int held = 0;
            for (int c = 0; c < CROSSINGS; c++) {
                if (isSweeper(holder[c])) {
                    held++;
                }
            }
            return held;
        }

        private int sweepersAt(int c) {
            int there = 0;
            for (int s = 0; s < MOST_SWEEPERS && s < sweepers; s++) {
                if (place[s] == c) {
                    there++;
                }
            }
            return there;
        }

        private int cleanCrossings() {
            int clean = 0;
            for (int c = 0; c < CROSSINGS; c++) {
                if (mud[c] <= CLEAN_MUD) {
                    clean++;
                }
            }
            return clean;
        }

        private static int sum(int[] row) {
            int all = 0;
            if (row != null) {
                for (int i = 0; i < row.length; i++) {
                    all += row[i];
                }
            }
            return all;
        }
    }
}
