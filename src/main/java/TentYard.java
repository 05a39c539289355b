import java.util.Arrays;

/** A yard that hires tents out: what it has, who asked for it, and what that takes. README.md tells how to use it. */
public final class TentYard {
    public static final int NONE = -1, BAD = -2, NO = -3, FULL = -4;

    private static final int THINGS = 6, FIELDS = 10, LINES = 6, SOILS = 4, MOST_CREWS = 3;
    private static final int LAST_DAY = 60, MOST_DRYING = 5, USE_DAYS = LAST_DAY + MOST_DRYING + 1;
    private static final int MOST_OWN = 1000, MOST_WEIGHT = 100, MOST_HIRE = 1000, MOST_COST = 10000;
    private static final int MOST_NEED = 500, MOST_PRICE = 100000, MOST_MENDED = 1000;
    private static final int MOST_GUESTS = 5000, LEAST_SEATS = 4, MOST_SEATS = 60, MOST_DOORS = 200;
    private static final int MOST_TENT_BAYS = 2000, MOST_BAYS = 99, MOST_STAKES = 999, MOST_HOLD = 1000;
    private static final int FIRST_HOLD = 100, MOST_GUST = 60, MOST_ROOM = 100000;
    private static final int ASKED = 0, TAKEN = 1, GIVEN_UP = 2, BACK = 3;
    private static final int LAST_ABOUT = 6, LAST_COUNT = 5;

    private final Things things;
    private final Fields fields;
    private final Rain rain;
    private final Ledger ledger;
    private final Law law;
    private final Crews crews;
    private final int[] holds;
    private int bills;

    public TentYard() {
        things = new Things();
        fields = new Fields();
        rain = new Rain();
        ledger = new Ledger();
        law = new Law();
        crews = new Crews();
        holds = new int[SOILS];
        Arrays.fill(holds, FIRST_HOLD);
        bills = 0;
    }

    // ---- things, fields, rain

    public int thing(int k, int own, int drying, int weight, int hire, int cost) {
        if (!isThing(k) || outside(own, 0, MOST_OWN) || outside(drying, 0, MOST_DRYING)) {
            return BAD;
        }
        if (outside(weight, 1, MOST_WEIGHT) || outside(hire, 0, MOST_HIRE) || outside(cost, 0, MOST_COST)) {
            return BAD;
        }
        things.own[k] = own;
        things.drying[k] = drying;
        things.weight[k] = weight;
        things.hire[k] = hire;
        things.cost[k] = cost;
        return 1;
    }

    public int field(int first, int last, int price) {
        if (outside(first, 0, LAST_DAY) || outside(last, first, LAST_DAY) || outside(price, 0, MOST_PRICE)) {
            return BAD;
        }
        return fields.ask(first, last, price);
    }

    public int need(int field, int thing, int v) {
        if (!fields.has(field) || !isThing(thing) || outside(v, 0, MOST_NEED)) {
            return BAD;
        }
        if (fields.state[field] != ASKED) {
            return NO;
        }
        int was = fields.needs[cell(field, thing)];
        fields.needs[cell(field, thing)] = v;
        return was;
    }

    public int rain(int day, boolean is) {
        if (outside(day, 0, LAST_DAY)) {
            return BAD;
        }
        rain.tell(day, is);
        return 1;
    }

    // ---- what is taken, hired in, given up, changed

    public int take(int field) {
        if (!fields.has(field)) {
            return BAD;
        }
        if (fields.state[field] != ASKED || !goTogether(fields.setOf(TAKEN) | 1 << field)) {
            return NO;
        }
        fields.state[field] = TAKEN;
        return 1;
    }

    public int hire(int field) {
        if (!fields.has(field)) {
            return BAD;
        }
        if (fields.state[field] != ASKED) {
            return NO;
        }
        fields.state[field] = TAKEN;
        countAnew(fields.setOf(TAKEN));
        return (int) ledger.hireSum;
    }

    public int giveUp(int field) {
        if (!fields.has(field)) {
            return BAD;
        }
        if (fields.state[field] != ASKED && fields.state[field] != TAKEN) {
            return NO;
        }
        fields.state[field] = GIVEN_UP;
        return 1;
    }

    public int change(int field, int thing, int v) {
        if (!fields.has(field) || !isThing(thing) || outside(v, 0, MOST_NEED)) {
            return BAD;
        }
        if (fields.state[field] != TAKEN) {
            return NO;
        }
        fields.needs[cell(field, thing)] = v;
        return bit(goTogether(fields.setOf(TAKEN)));
    }

    // ---- what comes back

    public int back(int field) {
        if (!fields.has(field)) {
            return BAD;
        }
        if (fields.state[field] != TAKEN) {
            return NO;
        }
        fields.state[field] = BACK;
        return 1;
    }

    public int missing(int field, int thing, int n) {
        if (!fields.has(field) || !isThing(thing) || outside(n, 0, fields.needs[cell(field, thing)])) {
            return BAD;
        }
        if (fields.state[field] != BACK || fields.told[cell(field, thing)]) {
            return NO;
        }
        int bill = things.cost[thing] * n;
        fields.told[cell(field, thing)] = true;
        things.gone[thing] += n;
        bills += bill;
        return bill;
    }

    public int mend(int thing, int n) {
        if (!isThing(thing) || outside(n, 0, MOST_MENDED)) {
            return BAD;
        }
        if (n > things.gone[thing]) {
            return NO;
        }
        things.gone[thing] -= n;
        return things.gone[thing];
    }

    // ---- what is asked of it

    public int about(int field, int what) {
        if (!fields.has(field) || outside(what, 0, LAST_ABOUT)) {
            return BAD;
        }
        return fields.tell(field, what);
    }

    public int lack(int thing, int day) {
        if (!isThing(thing) || outside(day, 0, USE_DAYS - 1)) {
            return BAD;
        }
        countAnew(fields.setOf(TAKEN));
        return Math.max(0, ledger.used[thing * USE_DAYS + day] - things.have(thing));
    }

    public int fits(int set) {
        return fields.hasAll(set) ? bit(goTogether(set)) : BAD;
    }

    public int best() {
        int taken = fields.setOf(TAKEN), asked = fields.setOf(ASKED);
        if (!goTogether(taken)) {
            return NO;
        }
        int found = 0, most = 0;
        // Sets rise as numbers, so that of like ones the least stays.
        for (int set = 1; set <= asked; set++) {
            int sum = fields.priceOf(set);
            if ((set & ~asked) != 0 || sum <= most) {
                continue;
            }
            countOn(taken | set);
            if (ledger.lacking == 0) {
                found = set;
                most = sum;
            }
        }
        return found;
    }

    public int dearest() {
        int taken = fields.setOf(TAKEN), asked = fields.setOf(ASKED);
        countAnew(taken);
        long without = ledger.hireSum, most = 0;
        int found = 0;
        for (int set = 1; set <= asked; set++) {
            int sum = fields.priceOf(set);
            // Hiring in only takes from a set's worth: one whose prices are too low needs no counting.
            if ((set & ~asked) != 0 || sum <= most) {
                continue;
            }
            countOn(taken | set);
            long worth = sum - (ledger.hireSum - without);
            if (worth > most) {
                found = set;
                most = worth;
            }
        }
        return found;
    }

    public long hired(int set) {
        if (!fields.hasAll(set)) {
            return BAD;
        }
        countAnew(set);
        return ledger.hireSum;
    }

    public int fewest() {
        int taken = fields.setOf(TAKEN);
        if (goTogether(taken)) {
            return 0;
        }
        int found = taken, few = Integer.bitCount(taken), least = fields.priceOf(taken);
        for (int set = 1; set < taken; set++) {
            int many = Integer.bitCount(set), sum = fields.priceOf(set);
            if ((set & ~taken) != 0 || many > few || many == few && sum >= least) {
                continue;
            }
            countOn(taken & ~set);
            if (ledger.lacking == 0) {
                found = set;
                few = many;
                least = sum;
            }
        }
        return found;
    }

    // ---- tents, laws, gusts

    public int bays(int guests, int seats) {
        if (outside(guests, 1, MOST_GUESTS) || outside(seats, LEAST_SEATS, MOST_SEATS)) {
            return BAD;
        }
        return cutUp(guests, seats);
    }

    public int law(int from, int doors) {
        if (outside(from, 1, MOST_GUESTS) || outside(doors, 1, MOST_DOORS)) {
            return BAD;
        }
        return law.write(from, doors);
    }

    public int unlaw() {
        int were = law.size;
        law.size = 0;
        return were;
    }

    public int doors(int guests) {
        return outside(guests, 1, MOST_GUESTS) ? BAD : law.doorsFor(guests);
    }

    public int keeps(int guests, int b) {
        if (outside(guests, 1, MOST_GUESTS) || outside(b, 1, MOST_TENT_BAYS)) {
            return BAD;
        }
        return bit(law.doorsFor(guests) <= 2 * b + 2);
    }

    public int soil(int s, int hold) {
        if (outside(s, 0, SOILS - 1) || outside(hold, 1, MOST_HOLD)) {
            return BAD;
        }
        int was = holds[s];
        holds[s] = hold;
        return was;
    }

    public int pitch(int field, int soil, int bays, int stakes) {
        if (!fields.has(field) || outside(soil, 0, SOILS - 1)) {
            return BAD;
        }
        if (outside(bays, 0, MOST_BAYS) || outside(stakes, 0, MOST_STAKES)) {
            return BAD;
        }
        fields.soil[field] = soil;
        fields.bays[field] = bays;
        fields.stakes[field] = stakes;
        return 1;
    }

    public int bears(int field) {
        if (!fields.has(field)) {
            return BAD;
        }
        int v = MOST_GUST;
        while (v > 0 && !stands(field, v)) {
            v--;
        }
        return v;
    }

    public int gust(int day, int v) {
        if (outside(day, 0, LAST_DAY) || outside(v, 0, MOST_GUST)) {
            return BAD;
        }
        int struck = 0;
        for (int f = 0; f < fields.size; f++) {
            boolean there = fields.state[f] == TAKEN && fields.first[f] <= day && day <= fields.last[f];
            if (there && !stands(f, v)) {
                struck |= 1 << f;
            }
        }
        return struck;
    }

    // ---- crews, lorries

    public int hours(int day, int n) {
        if (outside(day, 0, LAST_DAY) || outside(n, 1, MOST_CREWS)) {
            return BAD;
        }
        sendCrews(day, n);
        return crews.least;
    }

    public int crew(int day, int n, int field) {
        if (outside(day, 0, LAST_DAY) || outside(n, 1, MOST_CREWS) || !fields.has(field)) {
            return BAD;
        }
        sendCrews(day, n);
        return crews.crewOf(field);
    }

    public int loads(int day, int room) {
        if (outside(day, 0, LAST_DAY) || outside(room, 1, MOST_ROOM)) {
            return BAD;
        }
        int sum = 0;
        for (int f = 0; f < fields.size; f++) {
            if (fields.worksOn(f, day)) {
                sum += weightOf(f);
            }
        }
        return cutUp(sum, room);
    }

    public int count(int what) {
        return outside(what, 0, LAST_COUNT) ? BAD : total(what);
    }

    public long digest() {
        long h = 179;
        for (int what = 0; what <= LAST_COUNT; what++) {
            h = 31 * h + total(what);
        }
        for (int f = 0; f < fields.size; f++) {
            for (int what = 0; what <= LAST_ABOUT; what++) {
                h = 31 * h + fields.tell(f, what);
            }
            for (int t = 0; t < THINGS; t++) {
                h = 31 * h + fields.needs[cell(f, t)];
            }
        }
        for (int t = 0; t < THINGS; t++) {
            h = 31 * (31 * h + things.own[t]) + things.gone[t];
        }
        for (int i = 0; i < law.size; i++) {
            h = 31 * (31 * h + law.from[i]) + law.doors[i];
        }
        for (int s = 0; s < SOILS; s++) {
            h = 31 * h + holds[s];
        }
        return h;
    }

    // ---- small helps

    private static boolean outside(int v, int least, int most) {
        return v < least || v > most;
    }

    private static boolean isThing(int thing) {
        return thing >= 0 && thing < THINGS;
    }

    private static int bit(boolean is) {
        return is ? 1 : 0;
    }

    /** Where a field's row holds a thing; both have been looked at before. */
    private static int cell(int field, int thing) {
        return field * THINGS + thing;
    }

    /** How many parts are needed, the last one perhaps not full; a part below 1 is not divided by. */
    private static int cutUp(int all, int part) {
        return part < 1 ? 0 : (all + part - 1) / part;
    }

    private boolean goTogether(int set) {
        countAnew(set);
        return ledger.lacking == 0;
    }

    /** Things, needs and rain may have changed since the ledger was last used, so it starts empty. */
    private void countAnew(int set) {
        ledger.clear();
        countOn(set);
    }

    /** Goes on from the set that the ledger holds: only fields that come or go are counted. */
    private void countOn(int set) {
        int turned = set ^ ledger.set;
        for (int f = 0; f < fields.size; f++) {
            if ((turned >> f & 1) == 1) {
                enter(f, (set >> f & 1) == 1 ? 1 : -1);
            }
        }
        ledger.set = set;
    }

    private void enter(int field, int sign) {
        boolean wet = rain.on(fields.last[field]);
        for (int t = 0; t < THINGS; t++) {
            int v = fields.needs[cell(field, t)];
            int until = fields.last[field] + (wet ? things.drying[t] : 0);
            if (v > 0) {
                ledger.enter(t, fields.first[field], until, sign * v, things.have(t), things.hire[t]);
            }
        }
    }

    private boolean stands(int field, int v) {
        return v * v * fields.bays[field] <= holds[fields.soil[field]] * fields.stakes[field];
    }

    private void sendCrews(int day, int n) {
        crews.clear();
        for (int f = 0; f < fields.size; f++) {
            if (fields.worksOn(f, day)) {
                crews.add(f, fields.bays[f] * 2 + 1);
            }
        }
        crews.share(n);
    }

    private int weightOf(int field) {
        int sum = 0;
        for (int t = 0; t < THINGS; t++) {
            sum += fields.needs[cell(field, t)] * things.weight[t];
        }
        return sum;
    }

    private int total(int what) {
        switch (what) {
            case 0: return fields.size;
            case 1: return Integer.bitCount(fields.setOf(TAKEN));
            case 2: return law.size;
            case 3: return rain.days;
            case 4: return things.allGone();
            default: return bills;
        }
    }

    /** What the yard has of each thing, a row for each of its numbers. */
    private static final class Things {
        final int[] own = new int[THINGS];
        final int[] drying = new int[THINGS];
        final int[] weight = new int[THINGS];
        final int[] hire = new int[THINGS];
        final int[] cost = new int[THINGS];
        final int[] gone = new int[THINGS];

        Things() {
            Arrays.fill(weight, 1);
        }

        int have(int thing) {
            return Math.max(0, own[thing] - gone[thing]);
        }

        int allGone() {
            int sum = 0;
            for (int t = 0; t < THINGS; t++) {
                sum += gone[t];
            }
            return sum;
        }
    }

    /** The fields as they came; rows of needs and of what was told missing have a cell for each thing. */
    private static final class Fields {
        final int[] first = new int[FIELDS];
        final int[] last = new int[FIELDS];
        final int[] price = new int[FIELDS];
        final int[] state = new int[FIELDS];
        final int[] soil = new int[FIELDS];
        final int[] bays = new int[FIELDS];
        final int[] stakes = new int[FIELDS];
        final int[] needs = new int[FIELDS * THINGS];
        final boolean[] told = new boolean[FIELDS * THINGS];
        int size = 0;

        boolean has(int field) {
            return field >= 0 && field < size;
        }

        boolean hasAll(int set) {
            return set >= 0 && set < 1 << size;
        }

        int ask(int from, int to, int offered) {
            if (size >= FIELDS) {
                return FULL;
            }
            first[size] = from;
            last[size] = to;
            price[size] = offered;
            size++;
            return size - 1;
        }

        int setOf(int wanted) {
            int set = 0;
            for (int f = 0; f < size; f++) {
                if (state[f] == wanted) {
                    set |= 1 << f;
                }
            }
            return set;
        }

        int priceOf(int set) {
            int sum = 0;
            for (int f = 0; f < size; f++) {
                if ((set >> f & 1) == 1) {
                    sum += price[f];
                }
            }
            return sum;
        }

        boolean worksOn(int field, int day) {
            return state[field] == TAKEN && (first[field] == day || last[field] == day);
        }

        int tell(int field, int what) {
            switch (what) {
                case 0: return state[field];
                case 1: return first[field];
                case 2: return last[field];
                case 3: return price[field];
                case 4: return soil[field];
                case 5: return bays[field];
                default: return stakes[field];
            }
        }
    }

    private static final class Rain {
        private final boolean[] falls = new boolean[LAST_DAY + 1];
        int days = 0;

        boolean on(int day) {
            return day >= 0 && day <= LAST_DAY && falls[day];
        }

        void tell(int day, boolean is) {
            if (day < 0 || day > LAST_DAY || falls[day] == is) {
                return;
            }
            falls[day] = is;
            days += is ? 1 : -1;
        }
    }

    /** What a set of fields uses of each thing on each day; what that lacks is kept up with every entry. */
    private static final class Ledger {
        final int[] used = new int[THINGS * USE_DAYS];
        int set = 0;
        int lacking = 0;
        long hireSum = 0;

        void clear() {
            Arrays.fill(used, 0);
            set = 0;
            lacking = 0;
            hireSum = 0;
        }

        void enter(int thing, int from, int to, int v, int have, int hire) {
            if (!isThing(thing) || from < 0 || to >= USE_DAYS) {
                return;
            }
            int row = thing * USE_DAYS;
            for (int day = from; day <= to; day++) {
                int before = used[row + day] - have, after = before + v;
                used[row + day] += v;
                if (before <= 0 && after <= 0) {
                    continue;
                }
                hireSum += (long) hire * (Math.max(0, after) - Math.max(0, before));
                lacking += bit(after > 0) - bit(before > 0);
            }
        }
    }

    private static final class Law {
        final int[] from = new int[LINES];
        final int[] doors = new int[LINES];
        int size = 0;

        int write(int guests, int wanted) {
            if (size > 0 && (guests <= from[size - 1] || wanted <= doors[size - 1])) {
                return NO;
            }
            if (size >= LINES) {
                return FULL;
            }
            from[size] = guests;
            doors[size] = wanted;
            size++;
            return size;
        }

        int doorsFor(int guests) {
            int wanted = 1;
            for (int i = 0; i < size; i++) {
                if (guests >= from[i]) {
                    wanted = doors[i];
                }
            }
            return wanted;
        }
    }

    /** Shares a day's fields among crews, trying all ways in the order of what the least field has, then the next. */
    private static final class Crews {
        private final int[] field = new int[FIELDS];
        private final int[] work = new int[FIELDS];
        private final int[] way = new int[FIELDS];
        private final int[] bestWay = new int[FIELDS];
        private final int[] sums = new int[MOST_CREWS];
        private int size = 0;
        int least = 0;

        void clear() {
            size = 0;
            least = 0;
        }

        void add(int number, int hours) {
            if (size < FIELDS) {
                field[size] = number;
                work[size] = hours;
                size++;
            }
        }

        void share(int n) {
            if (n < 1 || n > MOST_CREWS || size == 0) {
                return;
            }
            startWithOne();
            int ways = 1;
            for (int i = 1; i < size; i++) {
                ways *= n;
            }
            for (int i = 1; i < ways; i++) {
                nextWay(n);
                int greatest = greatestSum();
                if (greatest < least) {
                    least = greatest;
                    System.arraycopy(way, 0, bestWay, 0, size);
                }
            }
        }

        private void startWithOne() {
            Arrays.fill(way, 0);
            Arrays.fill(bestWay, 0);
            Arrays.fill(sums, 0);
            for (int i = 0; i < size; i++) {
                sums[0] += work[i];
            }
            least = sums[0];
        }

        /** Counts on, the last field fastest; the first one stays with crew 0, as crews differ by number alone. */
        private void nextWay(int n) {
            boolean carry = true;
            for (int i = size - 1; i > 0 && carry; i--) {
                sums[way[i]] -= work[i];
                way[i]++;
                carry = way[i] == n;
                if (carry) {
                    way[i] = 0;
                }
                sums[way[i]] += work[i];
            }
        }

        private int greatestSum() {
            int greatest = 0;
            for (int c = 0; c < MOST_CREWS; c++) {
                greatest = Math.max(greatest, sums[c]);
            }
            return greatest;
        }

        int crewOf(int number) {
            for (int i = 0; i < size; i++) {
                if (field[i] == number) {
                    return bestWay[i];
                }
            }
            return NONE;
        }
    }
}
