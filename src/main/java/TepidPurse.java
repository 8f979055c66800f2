/** Money that cools: warm stones, the purses they lie in, and what can be told of them. */
public final class TepidPurse {
    public static final int BAD = -1, STATE = -2, FULL = -3, NONE = -4;

    private static final int MOST_PEOPLE = 4;
    private static final int MOST_STONES = 5;
    private static final int MOST_DEBTS = 4;
    private static final int MOST_SEEN = 6;
    private static final int MOST_IMAGES = 2;
    private static final int MOST_SHEETS = 4;
    private static final int MOST_CELLS = 40;
    private static final int MOST_BYTES = 160;

    private static final int WARMEST = 99;
    private static final int WARM_FROM = 5;
    private static final int MINUTES_END = 1000;
    private static final int LONGEST_STAY = 60;
    private static final int LAST_PRICED = 5;
    private static final int LAST_WINDY = 6;
    private static final int LAST_SEEN = 20;
    private static final int MOST_READ = 20;

    /** A question for the i-th of a row is asked as this and i. */
    private static final int ROW = 10;

    private static final int FAULT_NULL = 1;
    private static final int FAULT_INDEX = 2;
    private static final int FAULT_CAST = 3;
    private static final int FAULT_SIZE = 4;

    private static final int[] BASES = {6, 4, 8, 3};
    private static final long[] POWERS_OF_TEN = {1L, 10L, 100L, 1000L, 10000L, 100000L, 1000000L};

    private final World world = new World();
    private final World scratch = new World();
    private final World[] images = new World[MOST_IMAGES];
    private final boolean[] kept = new boolean[MOST_IMAGES];
    private final Tape tape = new Tape();
    private final Sightings sightings = new Sightings();
    private final Sheet[] sheets = new Sheet[MOST_SHEETS];
    private final Route route = new Route();
    private final Clearing clearing = new Clearing();
    private final Settling settling = new Settling();
    private final Walking walking = new Walking();
    private int textFault = 0;
    private int readFault = 0;

    public TepidPurse() {
        for (int k = 0; k < MOST_IMAGES; k++) {
            images[k] = new World();
        }
        for (int k = 0; k < MOST_SHEETS; k++) {
            sheets[k] = new Sheet();
        }
    }

    // ---- the text, what there is

    public int feed(int c) {
        if (!isIn(c, 0, 127)) {
            return BAD;
        }
        return tape.append(c) ? tape.length : FULL;
    }

    public int end(int n) {
        if (!isIn(n, 0, tape.length)) {
            return BAD;
        }
        int had = tape.length;
        tape.length = n;
        return had;
    }

    public int text() {
        int lines = tape.tell(scratch);
        textFault = tape.fault;
        tape.length = 0;
        if (textFault != 0) {
            return -10 - tape.faultPlace;
        }
        world.copyFrom(scratch);
        sightings.size = 0;
        for (int k = 0; k < MOST_IMAGES; k++) {
            kept[k] = false;
        }
        return lines;
    }

    public int fault() {
        return textFault;
    }

    public int rule(int what) {
        switch (what) {
            case 0: return world.people;
            case 1: return world.stones;
            case 2: return world.debts;
            case 3: return world.ovenPlace;
            case 4: return world.heat;
            case 5: return world.wind;
            case 6: return world.minute;
            default: return BAD;
        }
    }

    public int one(int p, int what) {
        if (!world.hasOne(p)) {
            return BAD;
        }
        switch (what) {
            case 0: return world.wool[p];
            case 1: return world.place[p];
            case 2: return world.stonesOf(p);
            case 3: return world.warmthOf(p);
            default: return BAD;
        }
    }

    public int stone(int s, int what) {
        if (!world.hasStone(s)) {
            return BAD;
        }
        switch (what) {
            case 0: return world.kind[s];
            case 1: return world.warmth[s];
            case 2: return world.owner[s];
            case 3: return world.rateOf(s);
            case 4: return isWarm(world.warmth[s]) ? 1 : 0;
            default: return BAD;
        }
    }

    public int debt(int d, int what) {
        if (!world.hasDebt(d)) {
            return BAD;
        }
        switch (what) {
            case 0: return world.debtor[d];
            case 1: return world.creditor[d];
            case 2: return world.amount[d];
            default: return BAD;
        }
    }

    public int price(int t) {
        return isIn(t, 0, LAST_PRICED) ? world.price[t] : BAD;
    }

    // ---- what is changed

    public int dress(int p, int what, int v) {
        if (!world.hasOne(p)) {
            return BAD;
        }
        if (what == 0 && isIn(v, 0, 5)) {
            return exchange(world.wool, p, v);
        }
        if (what == 1 && isIn(v, 0, 9)) {
            return exchange(world.place, p, v);
        }
        return BAD;
    }

    public int warm(int s, int what, int v) {
        if (!world.hasStone(s)) {
            return BAD;
        }
        if (what == 0 && isIn(v, 0, BASES.length - 1)) {
            return exchange(world.kind, s, v);
        }
        if (what == 1 && isIn(v, 0, WARMEST)) {
            return exchange(world.warmth, s, v);
        }
        return BAD;
    }

    public int set(int what, int v) {
        int was = BAD;
        if (what == 0 && isIn(v, 0, 10)) {
            was = world.wind;
            world.wind = v;
        } else if (what == 1 && isIn(v, 5, 99)) {
            was = world.heat;
            world.heat = v;
        } else if (what == 2 && isIn(v, 0, 9)) {
            was = world.ovenPlace;
            world.ovenPlace = v;
        }
        return was;
    }

    public int ask(int t, int v) {
        if (!isIn(t, 0, LAST_PRICED) || !isIn(v, 1, 9)) {
            return BAD;
        }
        return exchange(world.price, t, v);
    }

    public int owe(int d, int v) {
        if (!world.hasDebt(d) || !isIn(v, 0, 99)) {
            return BAD;
        }
        return exchange(world.amount, d, v);
    }

    public int halve(int s) {
        if (!world.hasStone(s)) {
            return BAD;
        }
        if (!isWarm(world.warmth[s])) {
            return STATE;
        }
        if (world.stones >= MOST_STONES) {
            return FULL;
        }
        world.warmth[s] = Math.max(0, world.warmth[s] / 2 - 1);
        world.addStone(world.kind[s], world.warmth[s], world.owner[s]);
        return world.stones;
    }

    // ---- time

    public int go(int n) {
        if (!isIn(n, 0, LONGEST_STAY)) {
            return BAD;
        }
        if (world.minute + n >= MINUTES_END) {
            return FULL;
        }
        world.letPass(n);
        return world.countWarm();
    }

    public int pay(int s, int p) {
        int refusal = world.refusalToPay(s, p);
        return refusal != 0 ? refusal : world.handOver(s, p);
    }

    public int heat(int s) {
        if (!world.hasStone(s)) {
            return BAD;
        }
        if (world.minute + 2 * world.ovenDistance(s) + 1 >= MINUTES_END) {
            return FULL;
        }
        world.bake(s);
        return world.warmth[s];
    }

    public int after(int s, int n) {
        if (!world.hasStone(s) || !isIn(n, 0, LONGEST_STAY)) {
            return BAD;
        }
        return cooledFor(world.warmth[s], world.rateOf(s), n);
    }

    public int cold(int s) {
        if (!world.hasStone(s)) {
            return BAD;
        }
        int warmth = world.warmth[s];
        int minutes = 0;
        for (int i = 0; i <= WARMEST && isWarm(warmth); i++) {
            warmth = cooled(warmth, world.rateOf(s));
            minutes++;
        }
        return minutes;
    }

    // ---- ways, debts

    public int way(int s, int p, int what) {
        boolean asksForOne = isIn(what, ROW, ROW + MOST_PEOPLE - 1);
        if (!world.hasStone(s) || !world.hasOne(p) || !(isIn(what, 0, 1) || asksForOne)) {
            return BAD;
        }
        if (world.owner[s] == p) {
            return STATE;
        }
        route.find(world, s, p);
        if (what == 0) {
            return route.bestWarmth;
        }
        if (what == 1) {
            return route.bestMinutes;
        }
        return what - ROW < route.bestLength ? route.best[what - ROW] : NONE;
    }

    public int fewest(int d, int what) {
        boolean asksForStone = isIn(what, ROW, ROW + MOST_STONES - 1);
        if (!world.hasDebt(d) || !(what == 0 || asksForStone)) {
            return BAD;
        }
        if (!clearing.find(world, d)) {
            return NONE;
        }
        if (what == 0) {
            return clearing.size;
        }
        return what - ROW < clearing.size ? clearing.chosen[what - ROW] : NONE;
    }

    public int settle(int what) {
        if (what != 0 && !isIn(what, ROW, ROW + world.debts - 1)) {
            return BAD;
        }
        settling.find(world, clearing);
        return what == 0 ? settling.mostCleared : settling.best[what - ROW];
    }

    // ---- what is to be done

    public int wool(int s, int n) {
        if (!world.hasStone(s) || !isIn(n, 0, LONGEST_STAY)) {
            return BAD;
        }
        for (int wool = 0; wool <= 5; wool++) {
            if (isWarm(cooledFor(world.warmth[s], rate(world.kind[s], wool), n))) {
                return wool;
            }
        }
        return NONE;
    }

    public int walks(int s, int n) {
        if (!world.hasStone(s) || !isIn(n, 0, LONGEST_STAY)) {
            return BAD;
        }
        return walking.leastWalks(world, s, n);
    }

    public int buys(int s, int what) {
        if (!world.hasStone(s) || !isIn(what, 0, 1)) {
            return BAD;
        }
        int best = 0;
        int most = -1;
        int warmth = world.warmth[s];
        for (int t = 0; t <= LAST_PRICED; t++) {
            int bought = world.boughtFor(warmth, t);
            if (bought > most) {
                most = bought;
                best = t;
            }
            warmth = cooled(warmth, world.rateOf(s));
        }
        return what == 0 ? best : most;
    }

    // ---- the wind by odds

    public long lasts(int s, int n, int what) {
        if (!world.hasStone(s) || !isIn(n, 0, LAST_WINDY) || !isIn(what, 0, 1)) {
            return BAD;
        }
        return fractionPart(weightOfWarm(world.warmth[s], world.rateOf(s), world.wind, n), n, what);
    }

    public long mean(int s, int n, int what) {
        if (!world.hasStone(s) || !isIn(n, 0, LAST_WINDY) || !isIn(what, 0, 1)) {
            return BAD;
        }
        return fractionPart(weightOfWarmth(world.warmth[s], world.rateOf(s), world.wind, n), n, what);
    }

    public long spend(int s, int what) {
        if (!world.hasStone(s) || !isIn(what, 0, 2)) {
            return BAD;
        }
        int warmth = world.warmth[s];
        int rate = world.rateOf(s);
        long now = world.boughtFor(warmth, 0) * POWERS_OF_TEN[LAST_PRICED];
        long later = weightBoughtLater(world, warmth, rate, 0);
        if (what == 2) {
            return now >= later ? 1 : 0;
        }
        return fractionPart(Math.max(now, later), LAST_PRICED, what);
    }

    // ---- whose it was

    public int see(int t, int w) {
        if (!isIn(t, 0, LAST_SEEN) || !isIn(w, 0, WARMEST)) {
            return BAD;
        }
        return sightings.append(t, w) ? sightings.size : FULL;
    }

    public int forget(int n) {
        if (!isIn(n, 0, sightings.size)) {
            return BAD;
        }
        int were = sightings.size;
        sightings.size = n;
        return were;
    }

    public int fits(int what) {
        if (!isIn(what, 0, 3)) {
            return BAD;
        }
        sightings.match(world);
        switch (what) {
            case 0: return sightings.pairs;
            case 1: return sightings.firstPair;
            case 2: return sightings.fittingStones;
            default: return sightings.fittingPeople;
        }
    }

    // ---- by a seed

    public int drift(int seed, int n, int what) {
        if (!isIn(n, 1, 60) || !isIn(what, 0, 1)) {
            return BAD;
        }
        if (world.stones <= 0 || world.people <= 0) {
            return STATE;
        }
        scratch.copyFrom(world);
        int paid = 0;
        int state = seed;
        for (int i = 0; i < n; i++) {
            state = nextSeed(state);
            int s = seedBits(state) % world.stones;
            state = nextSeed(state);
            int p = seedBits(state) % world.people;
            if (scratch.owner[s] == p) {
                scratch.letPass(1);
            } else {
                paid += scratch.handOver(s, p);
            }
        }
        return what == 0 ? paid : scratch.minute - world.minute;
    }

    // ---- images, sheets

    public int keep(int k) {
        if (!isIn(k, 0, MOST_IMAGES - 1)) {
            return BAD;
        }
        int was = kept[k] ? 1 : 0;
        images[k].copyFrom(world);
        kept[k] = true;
        return was;
    }

    public int back(int k) {
        if (!isIn(k, 0, MOST_IMAGES - 1)) {
            return BAD;
        }
        if (!kept[k]) {
            return STATE;
        }
        world.copyFrom(images[k]);
        return world.minute;
    }

    public int sheet(int k, int lane, int n) {
        if (!isSheet(k) || !isLane(lane) || n > MOST_CELLS) {
            return BAD;
        }
        if (n < 0) {
            return -10 - FAULT_SIZE;
        }
        sheets[k].renew(lane, n);
        return 1;
    }

    public int lay(int k, int i, int v) {
        if (!isSheet(k)) {
            return BAD;
        }
        int fault = sheets[k].faultOfCells(i, 1);
        if (fault != 0) {
            return -10 - fault;
        }
        sheets[k].put(i, v);
        return 1;
    }

    public int read(int k, int lane, int f, int n) {
        if (!isSheet(k) || !isLane(lane) || !isIn(n, 0, MOST_READ)) {
            return BAD;
        }
        Sheet sheet = sheets[k];
        scratch.copyFrom(world);
        int paid = 0;
        int fault = 0;
        for (int i = 0; i < n && fault == 0; i++) {
            long cell = f + 2L * i;
            fault = sheet.faultOfPair(lane, cell);
            if (fault == 0) {
                int s = sheet.cells[(int) cell];
                int p = sheet.cells[(int) cell + 1];
                if (scratch.refusalToPay(s, p) != 0) {
                    return -20 - i;
                }
                scratch.handOver(s, p);
                paid++;
            }
        }
        world.copyFrom(scratch);
        readFault = fault;
        return paid;
    }

    public int torn() {
        return readFault;
    }

    public int count(int what) {
        switch (what) {
            case 0: return sightings.size;
            case 1: return (kept[0] ? 1 : 0) + (kept[1] ? 1 : 0);
            case 2: return tape.length;
            case 3: return sheets[0].isThere() ? sheets[0].length : NONE;
            case 4: return world.countWarm();
            case 5: return world.allWarmth();
            case 6: return world.allDebts();
            default: return BAD;
        }
    }

    // ---- helpers of the face

    private static boolean isIn(int v, int low, int high) {
        return v >= low && v <= high;
    }

    private static boolean isSheet(int k) {
        return isIn(k, 0, MOST_SHEETS - 1);
    }

    private static boolean isLane(int lane) {
        return isIn(lane, 0, 2);
    }

    private static int exchange(int[] row, int i, int v) {
        int was = row[i];
        row[i] = v;
        return was;
    }

    private static int nextSeed(int seed) {
        return seed * 1103515245 + 12345;
    }

    private static int seedBits(int seed) {
        return (seed >>> 16) & 0x7fff;
    }

    // ---- how a stone cools

    private static boolean isWarm(int warmth) {
        return warmth >= WARM_FROM;
    }

    private static int rate(int kind, int wool) {
        return Math.max(1, BASES[kind] - wool);
    }

    private static int cooled(int warmth, int rate) {
        return Math.max(0, warmth - 1 - warmth * rate / 20);
    }

    private static int cooledFor(int warmth, int rate, int minutes) {
        int left = warmth;
        for (int i = 0; i < minutes; i++) {
            left = cooled(left, rate);
        }
        return left;
    }

    // ---- odds, all as numerators over 10 to the power of the minutes still to come

    private static long weightOfWarm(int warmth, int rate, int wind, int minutes) {
        if (minutes <= 0) {
            return isWarm(warmth) ? 1 : 0;
        }
        int calm = cooled(warmth, rate);
        int windy = cooled(calm, rate);
        return (10 - wind) * weightOfWarm(calm, rate, wind, minutes - 1)
            + wind * weightOfWarm(windy, rate, wind, minutes - 1);
    }

    private static long weightOfWarmth(int warmth, int rate, int wind, int minutes) {
        if (minutes <= 0) {
            return warmth;
        }
        int calm = cooled(warmth, rate);
        int windy = cooled(calm, rate);
        return (10 - wind) * weightOfWarmth(calm, rate, wind, minutes - 1)
            + wind * weightOfWarmth(windy, rate, wind, minutes - 1);
    }

    private static long weightBought(World world, int warmth, int rate, int t) {
        if (t >= LAST_PRICED) {
            return world.boughtFor(warmth, LAST_PRICED);
        }
        long now = world.boughtFor(warmth, t) * POWERS_OF_TEN[LAST_PRICED - t];
        return Math.max(now, weightBoughtLater(world, warmth, rate, t));
    }

    private static long weightBoughtLater(World world, int warmth, int rate, int t) {
        int calm = cooled(warmth, rate);
        int windy = cooled(calm, rate);
        return (10 - world.wind) * weightBought(world, calm, rate, t + 1)
            + world.wind * weightBought(world, windy, rate, t + 1);
    }

    /** The numerator (0) or the denominator (1) of weight over 10 to the power of n, in lowest terms. */
    private static long fractionPart(long weight, int n, int what) {
        long whole = POWERS_OF_TEN[n];
        long divisor = Math.max(1, commonDivisor(weight, whole));
        return (what == 0 ? weight : whole) / divisor;
    }

    private static long commonDivisor(long a, long b) {
        long big = b;
        long small = a;
        for (int i = 0; i < 200 && small != 0; i++) {
            long rest = big % small;
            big = small;
            small = rest;
        }
        return big;
    }

    /** People, stones, the oven, the wind, prices, debts and the minute: all that an image holds. */
    private static final class World {
        int people = 0;
        final int[] wool = new int[MOST_PEOPLE];
        final int[] place = new int[MOST_PEOPLE];
        int stones = 0;
        final int[] kind = new int[MOST_STONES];
        final int[] warmth = new int[MOST_STONES];
        final int[] owner = new int[MOST_STONES];
        int ovenPlace = 0;
        int heat = 50;
        int wind = 2;
        final int[] price = {1, 1, 1, 1, 1, 1};
        int debts = 0;
        final int[] debtor = new int[MOST_DEBTS];
        final int[] creditor = new int[MOST_DEBTS];
        final int[] amount = new int[MOST_DEBTS];
        int minute = 0;

        World() {
        }

        void clear() {
            people = 0;
            stones = 0;
            ovenPlace = 0;
            heat = 50;
            wind = 2;
            for (int t = 0; t <= LAST_PRICED; t++) {
                price[t] = 1;
            }
            debts = 0;
            minute = 0;
        }

        void copyFrom(World other) {
            people = other.people;
            System.arraycopy(other.wool, 0, wool, 0, MOST_PEOPLE);
            System.arraycopy(other.place, 0, place, 0, MOST_PEOPLE);
            stones = other.stones;
            System.arraycopy(other.kind, 0, kind, 0, MOST_STONES);
            System.arraycopy(other.warmth, 0, warmth, 0, MOST_STONES);
            System.arraycopy(other.owner, 0, owner, 0, MOST_STONES);
            ovenPlace = other.ovenPlace;
            heat = other.heat;
            wind = other.wind;
            System.arraycopy(other.price, 0, price, 0, LAST_PRICED + 1);
            debts = other.debts;
            System.arraycopy(other.debtor, 0, debtor, 0, MOST_DEBTS);
            System.arraycopy(other.creditor, 0, creditor, 0, MOST_DEBTS);
            System.arraycopy(other.amount, 0, amount, 0, MOST_DEBTS);
            minute = other.minute;
        }

        boolean hasOne(int p) {
            return p >= 0 && p < people;
        }

        boolean hasStone(int s) {
            return s >= 0 && s < stones;
        }

        boolean hasDebt(int d) {
            return d >= 0 && d < debts;
        }

        void addOne(int itsWool, int itsPlace) {
            if (people < MOST_PEOPLE) {
                wool[people] = itsWool;
                place[people] = itsPlace;
                people++;
            }
        }

        void addStone(int itsKind, int itsWarmth, int itsOwner) {
            if (stones < MOST_STONES) {
                kind[stones] = itsKind;
                warmth[stones] = itsWarmth;
                owner[stones] = itsOwner;
                stones++;
            }
        }

        void addDebt(int from, int to, int howMuch) {
            if (debts < MOST_DEBTS) {
                debtor[debts] = from;
                creditor[debts] = to;
                amount[debts] = howMuch;
                debts++;
            }
        }

        boolean namesOnlyItsPeople() {
            for (int s = 0; s < stones; s++) {
                if (!hasOne(owner[s])) {
                    return false;
                }
            }
            for (int d = 0; d < debts; d++) {
                if (!hasOne(debtor[d]) || !hasOne(creditor[d])) {
                    return false;
                }
            }
            return true;
        }

        int stonesOf(int p) {
            int bits = 0;
            for (int s = 0; s < stones; s++) {
                if (owner[s] == p) {
                    bits |= 1 << s;
                }
            }
            return bits;
        }

        int warmthOf(int p) {
            int sum = 0;
            for (int s = 0; s < stones; s++) {
                if (owner[s] == p) {
                    sum += warmth[s];
                }
            }
            return sum;
        }

        int allWarmth() {
            int sum = 0;
            for (int s = 0; s < stones; s++) {
                sum += warmth[s];
            }
            return sum;
        }

        int allDebts() {
            int sum = 0;
            for (int d = 0; d < debts; d++) {
                sum += amount[d];
            }
            return sum;
        }

        int countWarm() {
            int warm = 0;
            for (int s = 0; s < stones; s++) {
                if (isWarm(warmth[s])) {
                    warm++;
                }
            }
            return warm;
        }

        int rateOf(int s) {
            return rate(kind[s], wool[owner[s]]);
        }

        int boughtFor(int howWarm, int t) {
            return howWarm / Math.max(1, price[t]);
        }

        int ovenDistance(int s) {
            return Math.abs(place[owner[s]] - ovenPlace);
        }

        int minutesBetween(int giver, int taker) {
            return Math.abs(place[giver] - place[taker]) + 1;
        }

        void letPass(int minutes) {
            for (int s = 0; s < stones; s++) {
                warmth[s] = cooledFor(warmth[s], rateOf(s), minutes);
            }
            minute += minutes;
        }

        void bake(int s) {
            int distance = ovenDistance(s);
            letPass(distance);
            int inTheOven = Math.max(warmth[s], heat);
            letPass(1);
            warmth[s] = inTheOven;
            letPass(distance);
        }

        /** What pay() answers where it refuses; 0 where it does not. */
        int refusalToPay(int s, int p) {
            if (!hasStone(s) || !hasOne(p)) {
                return BAD;
            }
            if (owner[s] == p) {
                return STATE;
            }
            return minute + minutesBetween(owner[s], p) >= MINUTES_END ? FULL : 0;
        }

        /** PAYING, for a stone that is not his already: its warmth when it comes. */
        int handOver(int s, int p) {
            int giver = owner[s];
            letPass(minutesBetween(giver, p));
            owner[s] = p;
            int owed = firstOwed(amount, giver, p);
            if (owed >= 0) {
                amount[owed] = lessened(amount[owed], warmth[s]);
            }
            return warmth[s];
        }

        /** The first debt between the two that is not 0 by these amounts; NONE. */
        int firstOwed(int[] amounts, int from, int to) {
            for (int d = 0; d < debts; d++) {
                if (debtor[d] == from && creditor[d] == to && amounts[d] != 0) {
                    return d;
                }
            }
            return NONE;
        }

        static int lessened(int owed, int warmth) {
            return isWarm(warmth) ? Math.max(0, owed - warmth) : owed;
        }
    }

    /** The bytes that were fed, and how they are read as a text. */
    private static final class Tape {
        private static final int TOKEN_END = 0;
        private static final int TOKEN_NAME = 1;
        private static final int TOKEN_NUMBER = 2;
        private static final int TOKEN_SEMICOLON = 3;

        private static final int NO_TOKEN = 1;
        private static final int NOT_HERE = 2;
        private static final int OUT_OF_BOUNDS = 3;
        private static final int TOLD_TWICE = 4;
        private static final int TOO_MANY = 5;
        private static final int NOBODY = 6;

        private final byte[] bytes = new byte[MOST_BYTES];
        int length = 0;
        int fault = 0;
        int faultPlace = 0;
        private int position = 0;
        private int token = TOKEN_END;
        private int tokenStart = 0;
        private int number = 0;
        private boolean ovenTold = false;
        private boolean windTold = false;
        private int pricesTold = 0;

        Tape() {
        }

        boolean append(int c) {
            if (length >= MOST_BYTES) {
                return false;
            }
            bytes[length] = (byte) c;
            length++;
            return true;
        }

        /** Reads all into a world, up to the first fault: how many lines. */
        int tell(World into) {
            into.clear();
            fault = 0;
            position = 0;
            ovenTold = false;
            windTold = false;
            pricesTold = 0;
            int lines = 0;
            nextToken();
            for (int i = 0; i <= MOST_BYTES && fault == 0 && token != TOKEN_END; i++) {
                readLine(into);
                if (fault == 0) {
                    lines++;
                    nextToken();
                }
            }
            if (fault == 0 && !into.namesOnlyItsPeople()) {
                blame(NOBODY, length);
            }
            return lines;
        }

        private void blame(int which, int where) {
            if (fault == 0) {
                fault = which;
                faultPlace = where;
            }
        }

        private void nextToken() {
            skipBlanks();
            tokenStart = position;
            if (position >= length) {
                token = TOKEN_END;
            } else if (isLetter(bytes[position])) {
                token = TOKEN_NAME;
                skipLetters();
            } else if (isFigure(bytes[position])) {
                token = TOKEN_NUMBER;
                takeFigures();
            } else if (bytes[position] == ';') {
                token = TOKEN_SEMICOLON;
                position++;
            } else {
                blame(NO_TOKEN, tokenStart);
            }
        }

        private static boolean isLetter(int c) {
            return c >= 'a' && c <= 'z';
        }

        private static boolean isFigure(int c) {
            return c >= '0' && c <= '9';
        }

        private void skipBlanks() {
            while (position < length && bytes[position] == ' ') {
                position++;
            }
        }

        private void skipLetters() {
            while (position < length && isLetter(bytes[position])) {
                position++;
            }
        }

        private void takeFigures() {
            number = 0;
            while (position < length && isFigure(bytes[position])) {
                // may wrap around where it is too long: then it is refused all the same
                number = number * 10 + (bytes[position] - '0');
                position++;
            }
            if (position - tokenStart > 2) {
                blame(NO_TOKEN, tokenStart);
            }
        }

        private boolean isName(String name) {
            if (token != TOKEN_NAME || position - tokenStart != name.length()) {
                return false;
            }
            for (int i = 0; i < name.length(); i++) {
                if (bytes[tokenStart + i] != name.charAt(i)) {
                    return false;
                }
            }
            return true;
        }

        /** The kind of stone that the name tells; NONE. */
        private int kindNamed() {
            if (isName("plain")) {
                return 0;
            }
            if (isName("flint")) {
                return 1;
            }
            if (isName("slate")) {
                return 2;
            }
            return isName("soap") ? 3 : NONE;
        }

        private void readLine(World into) {
            int kind = kindNamed();
            if (isName("man")) {
                readMan(into);
            } else if (kind >= 0) {
                readStone(into, kind);
            } else if (isName("oven")) {
                readOven(into);
            } else if (isName("wind")) {
                readWind(into);
            } else if (isName("price")) {
                readPrice(into);
            } else if (isName("debt")) {
                readDebt(into);
            } else {
                blame(NOT_HERE, tokenStart);
            }
        }

        private void refuse(boolean refused, int which) {
            if (refused) {
                blame(which, tokenStart);
            }
        }

        /** The next token, a number within bounds; behind a fault nothing is read any more. */
        private int readNumber(int low, int high) {
            if (fault == 0) {
                nextToken();
                refuse(token != TOKEN_NUMBER, NOT_HERE);
                refuse(!isIn(number, low, high), OUT_OF_BOUNDS);
            }
            return fault == 0 ? number : low;
        }

        private boolean readSemicolon() {
            if (fault == 0) {
                nextToken();
                refuse(token != TOKEN_SEMICOLON, NOT_HERE);
            }
            return fault == 0;
        }

        private void readMan(World into) {
            refuse(into.people >= MOST_PEOPLE, TOO_MANY);
            int wool = readNumber(0, 5);
            int place = readNumber(0, 9);
            if (readSemicolon()) {
                into.addOne(wool, place);
            }
        }

        private void readStone(World into, int kind) {
            refuse(into.stones >= MOST_STONES, TOO_MANY);
            int warmth = readNumber(0, WARMEST);
            int owner = readNumber(0, MOST_PEOPLE - 1);
            if (readSemicolon()) {
                into.addStone(kind, warmth, owner);
            }
        }

        private void readOven(World into) {
            refuse(ovenTold, TOLD_TWICE);
            ovenTold = true;
            int place = readNumber(0, 9);
            int heat = readNumber(5, 99);
            if (readSemicolon()) {
                into.ovenPlace = place;
                into.heat = heat;
            }
        }

        private void readWind(World into) {
            refuse(windTold, TOLD_TWICE);
            windTold = true;
            int wind = readNumber(0, 10);
            if (readSemicolon()) {
                into.wind = wind;
            }
        }

        private void readPrice(World into) {
            int t = readNumber(0, LAST_PRICED);
            refuse((pricesTold >> t & 1) != 0, TOLD_TWICE);
            pricesTold |= 1 << t;
            int price = readNumber(1, 9);
            if (readSemicolon()) {
                into.price[t] = price;
            }
        }

        private void readDebt(World into) {
            refuse(into.debts >= MOST_DEBTS, TOO_MANY);
            int from = readNumber(0, MOST_PEOPLE - 1);
            int to = readNumber(0, MOST_PEOPLE - 1);
            refuse(from == to, OUT_OF_BOUNDS);
            int howMuch = readNumber(0, 99);
            if (readSemicolon()) {
                into.addDebt(from, to, howMuch);
            }
        }
    }

    /** A row of cells of a lane, or nothing. */
    private static final class Sheet {
        private static final int NOTHING = -1;
        private static final int BYTES = 0;
        private static final int SHORTS = 1;

        private int lane = NOTHING;
        int length = 0;
        final int[] cells = new int[MOST_CELLS];

        Sheet() {
        }

        boolean isThere() {
            return lane != NOTHING;
        }

        void renew(int itsLane, int n) {
            lane = itsLane;
            length = n;
            for (int i = 0; i < MOST_CELLS; i++) {
                cells[i] = 0;
            }
        }

        /** What the machine finds where two cells are read of the sheet taken as of a lane: nothing may be taken as any. */
        int faultOfPair(int asLane, long first) {
            return isThere() && lane != asLane ? FAULT_CAST : faultOfCells(first, 2);
        }

        /** What the machine finds where so many cells are used from that one on. */
        int faultOfCells(long first, int many) {
            if (!isThere()) {
                return FAULT_NULL;
            }
            return first >= 0 && first + many <= length ? 0 : FAULT_INDEX;
        }

        void put(int i, int v) {
            if (lane == BYTES) {
                cells[i] = (byte) v;
            } else if (lane == SHORTS) {
                cells[i] = (short) v;
            } else {
                cells[i] = v;
            }
        }
    }

    /** What was seen, and which stones and people fit it. */
    private static final class Sightings {
        int size = 0;
        private final int[] minutes = new int[MOST_SEEN];
        private final int[] warmths = new int[MOST_SEEN];
        int pairs = 0;
        int firstPair = NONE;
        int fittingStones = 0;
        int fittingPeople = 0;

        Sightings() {
        }

        boolean append(int t, int w) {
            if (size >= MOST_SEEN) {
                return false;
            }
            minutes[size] = t;
            warmths[size] = w;
            size++;
            return true;
        }

        void match(World world) {
            pairs = 0;
            firstPair = NONE;
            fittingStones = 0;
            fittingPeople = 0;
            for (int s = 0; s < world.stones; s++) {
                for (int p = 0; p < world.people; p++) {
                    if (isPair(world.warmth[s], rate(world.kind[s], world.wool[p]))) {
                        firstPair = pairs == 0 ? 10 * s + p : firstPair;
                        pairs++;
                        fittingStones |= 1 << s;
                        fittingPeople |= 1 << p;
                    }
                }
            }
        }

        private boolean isPair(int warmth, int rate) {
            for (int i = 0; i < size; i++) {
                if (cooledFor(warmth, rate, minutes[i]) != warmths[i]) {
                    return false;
                }
            }
            return true;
        }
    }

    /** The warmest way of a stone from hand to hand. */
    private static final class Route {
        private final int[] trail = new int[MOST_PEOPLE];
        final int[] best = new int[MOST_PEOPLE];
        int bestLength = 0;
        int bestWarmth = 0;
        int bestMinutes = 0;
        private int kind = 0;
        private int target = 0;

        Route() {
        }

        void find(World world, int s, int p) {
            kind = world.kind[s];
            target = p;
            bestLength = 0;
            bestWarmth = -1;
            bestMinutes = 0;
            step(world, 0, world.owner[s], world.warmth[s], 0, 1 << world.owner[s]);
        }

        private void step(World world, int depth, int holder, int warmth, int minutes, int visited) {
            if (holder == target) {
                judge(depth, warmth, minutes);
                return;
            }
            if (depth >= MOST_PEOPLE) {
                return;
            }
            for (int next = 0; next < world.people; next++) {
                if ((visited >> next & 1) == 0) {
                    int walked = world.minutesBetween(holder, next);
                    int left = cooledFor(warmth, rate(kind, world.wool[holder]), walked);
                    trail[depth] = next;
                    step(world, depth + 1, next, left, minutes + walked, visited | 1 << next);
                }
            }
        }

        /** Ways of one length are met in the order of people, so only a better one takes the place. */
        private void judge(int length, int warmth, int minutes) {
            if (warmth > bestWarmth || warmth == bestWarmth && length < bestLength) {
                bestLength = length;
                bestWarmth = warmth;
                bestMinutes = minutes;
                System.arraycopy(trail, 0, best, 0, MOST_PEOPLE);
            }
        }
    }

    /** The fewest stones by which a debt is paid. */
    private static final class Clearing {
        int size = 0;
        final int[] chosen = new int[MOST_STONES];
        /** How warm a stone comes that is paid behind so many others. */
        private final int[][] arrival = new int[MOST_STONES][MOST_STONES];
        /** What is owed when so many stones have been paid. */
        private final int[][] owed = new int[MOST_STONES + 1][MOST_DEBTS];
        private int wanted = 0;

        Clearing() {
        }

        /** Whether the debt can be cleared; then the first of the shortest rows is chosen. */
        boolean find(World world, int d) {
            wanted = d;
            System.arraycopy(world.amount, 0, owed[0], 0, MOST_DEBTS);
            int own = world.stonesOf(world.debtor[d]);
            foresee(world, own);
            for (int n = 0; n <= Integer.bitCount(own); n++) {
                if (choose(world, 0, n, own)) {
                    size = n;
                    return true;
                }
            }
            return false;
        }

        private void foresee(World world, int own) {
            int each = world.minutesBetween(world.debtor[wanted], world.creditor[wanted]);
            for (int s = 0; s < world.stones; s++) {
                if ((own >> s & 1) != 0) {
                    int left = world.warmth[s];
                    for (int i = 0; i < MOST_STONES; i++) {
                        left = cooledFor(left, world.rateOf(s), each);
                        arrival[s][i] = left;
                    }
                }
            }
        }

        private boolean choose(World world, int depth, int n, int unused) {
            if (depth >= n || depth >= MOST_STONES) {
                return owed[depth][wanted] == 0;
            }
            for (int s = 0; s < world.stones; s++) {
                if ((unused >> s & 1) != 0) {
                    chosen[depth] = s;
                    lessen(world, depth, arrival[s][depth]);
                    if (choose(world, depth + 1, n, unused & ~(1 << s))) {
                        return true;
                    }
                }
            }
            return false;
        }

        private void lessen(World world, int depth, int warmth) {
            int[] now = owed[depth + 1];
            System.arraycopy(owed[depth], 0, now, 0, MOST_DEBTS);
            int first = world.firstOwed(now, world.debtor[wanted], world.creditor[wanted]);
            if (first >= 0) {
                now[first] = World.lessened(now[first], warmth);
            }
        }
    }

    /** The order in which most debts are paid. */
    private static final class Settling {
        int mostCleared = 0;
        final int[] best = new int[MOST_DEBTS];
        private final int[] order = new int[MOST_DEBTS];
        /** How all is when so many debts had their turn. */
        private final World[] worlds = new World[MOST_DEBTS + 1];

        Settling() {
            for (int i = 0; i <= MOST_DEBTS; i++) {
                worlds[i] = new World();
            }
        }

        void find(World world, Clearing clearing) {
            worlds[0].copyFrom(world);
            mostCleared = -1;
            arrange(clearing, 0, 0);
        }

        private void arrange(Clearing clearing, int depth, int used) {
            if (depth >= worlds[0].debts || depth >= MOST_DEBTS) {
                judge(worlds[depth]);
                return;
            }
            for (int d = 0; d < worlds[0].debts; d++) {
                if ((used >> d & 1) == 0) {
                    order[depth] = d;
                    World then = worlds[depth + 1];
                    then.copyFrom(worlds[depth]);
                    if (clearing.find(then, d)) {
                        for (int i = 0; i < clearing.size; i++) {
                            then.handOver(clearing.chosen[i], then.creditor[d]);
                        }
                    }
                    arrange(clearing, depth + 1, used | 1 << d);
                }
            }
        }

        /** Orders are met by numbers, so only one that clears more takes the place. */
        private void judge(World then) {
            int cleared = 0;
            for (int d = 0; d < then.debts; d++) {
                if (worlds[0].amount[d] != 0 && then.amount[d] == 0) {
                    cleared++;
                }
            }
            if (cleared > mostCleared) {
                mostCleared = cleared;
                System.arraycopy(order, 0, best, 0, MOST_DEBTS);
            }
        }
    }

    /**
     * The fewest walks to the oven. A warmer stone never fares worse later on, so for each minute
     * and number of walks the warmest that it can be is enough to know.
     */
    private static final class Walking {
        /** By minutes: the warmest when no walk goes on, 0 where it was a pebble before. */
        private int[] warmest = new int[LONGEST_STAY + 1];
        private int[] withOneLess = new int[LONGEST_STAY + 1];
        private int minutes = 0;
        private int rate = 1;
        private int distance = 0;
        private int heat = 0;

        Walking() {
        }

        int leastWalks(World world, int s, int n) {
            minutes = Math.max(0, Math.min(n, LONGEST_STAY));
            rate = world.rateOf(s);
            distance = world.ovenDistance(s);
            heat = world.heat;
            clearRow();
            warmest[0] = orPebble(world.warmth[s]);
            stay();
            for (int walked = 0; walked <= minutes; walked++) {
                if (warmest[minutes] > 0) {
                    return walked;
                }
                walkOnce();
                stay();
            }
            return NONE;
        }

        private static int orPebble(int warmth) {
            return isWarm(warmth) ? warmth : 0;
        }

        private void clearRow() {
            for (int t = 0; t <= LONGEST_STAY; t++) {
                warmest[t] = 0;
            }
        }

        private void stay() {
            for (int t = 1; t <= minutes; t++) {
                warmest[t] = Math.max(warmest[t], orPebble(cooled(warmest[t - 1], rate)));
            }
        }

        private void walkOnce() {
            int[] row = withOneLess;
            withOneLess = warmest;
            warmest = row;
            clearRow();
            for (int t = 0; t < minutes; t++) {
                if (withOneLess[t] > 0) {
                    int back = Math.min(minutes, t + 2 * distance + 1);
                    warmest[back] = Math.max(warmest[back], walkedUntil(back, t, withOneLess[t]));
                }
            }
        }

        private int walkedUntil(int back, int begun, int warmth) {
            int left = warmth;
            for (int t = begun + 1; t <= back && left > 0; t++) {
                boolean inTheOven = t == begun + distance + 1;
                left = inTheOven ? Math.max(left, heat) : orPebble(cooled(left, rate));
            }
            return left;
        }
    }
}
