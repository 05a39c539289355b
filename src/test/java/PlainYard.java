import java.util.ArrayList;
import java.util.List;

/**
 * The document's words, written down a second time with no thought of speed: every question is answered from the
 * fields themselves, day by day and set by set. RunsTest compares the class with it.
 */
final class PlainYard {
    private static final int NONE = -1, BAD = -2, NO = -3, FULL = -4;

    private static final class Thing {
        int own, drying, weight = 1, hire, cost, gone;
    }

    private static final class Asker {
        int first, last, price, state, soil, bays, stakes;
        int[] needs = new int[6];
        boolean[] told = new boolean[6];
    }

    private final Thing[] things = new Thing[6];
    private final List<Asker> fields = new ArrayList<>();
    private final boolean[] wet = new boolean[61];
    private final List<int[]> lines = new ArrayList<>();
    private final int[] hold = {100, 100, 100, 100};
    private int bills = 0;

    PlainYard() {
        for (int t = 0; t < 6; t++) {
            things[t] = new Thing();
        }
    }

    private static boolean in(int v, int least, int most) {
        return least <= v && v <= most;
    }

    private boolean isField(int f) {
        return in(f, 0, fields.size() - 1);
    }

    private boolean isSet(int set) {
        return set >= 0 && set >> fields.size() == 0;
    }

    private boolean uses(Asker a, int t, int day) {
        if (in(day, a.first, a.last)) {
            return true;
        }
        return wet[a.last] && in(day, a.last + 1, a.last + things[t].drying);
    }

    private int lackOf(int set, int t, int day) {
        int needed = 0;
        for (int f = 0; f < fields.size(); f++) {
            if ((set & 1 << f) != 0 && uses(fields.get(f), t, day)) {
                needed += fields.get(f).needs[t];
            }
        }
        int have = things[t].own - things[t].gone;
        return Math.max(0, needed - (have < 0 ? 0 : have));
    }

    private boolean setFits(int set) {
        for (int t = 0; t < 6; t++) {
            for (int day = 0; day <= 65; day++) {
                if (lackOf(set, t, day) > 0) {
                    return false;
                }
            }
        }
        return true;
    }

    private long hiredFor(int set) {
        long sum = 0;
        for (int t = 0; t < 6; t++) {
            for (int day = 0; day <= 65; day++) {
                sum += (long) lackOf(set, t, day) * things[t].hire;
            }
        }
        return sum;
    }

    private int standing(int state) {
        int set = 0;
        for (int f = 0; f < fields.size(); f++) {
            set += fields.get(f).state == state ? 1 << f : 0;
        }
        return set;
    }

    private long prices(int set) {
        long sum = 0;
        for (int f = 0; f < fields.size(); f++) {
            sum += (set & 1 << f) != 0 ? fields.get(f).price : 0;
        }
        return sum;
    }

    int thing(int k, int own, int drying, int weight, int hire, int cost) {
        if (!in(k, 0, 5) || !in(own, 0, 1000) || !in(drying, 0, 5) || !in(weight, 1, 100) || !in(hire, 0, 1000)
                || !in(cost, 0, 10000)) {
            return BAD;
        }
        Thing t = things[k];
        t.own = own;
        t.drying = drying;
        t.weight = weight;
        t.hire = hire;
        t.cost = cost;
        return 1;
    }

    int field(int first, int last, int price) {
        if (!in(first, 0, 60) || !in(last, 0, 60) || first > last || !in(price, 0, 100000)) {
            return BAD;
        }
        if (fields.size() == 10) {
            return FULL;
        }
        Asker a = new Asker();
        a.first = first;
        a.last = last;
        a.price = price;
        fields.add(a);
        return fields.size() - 1;
    }

    int need(int field, int thing, int v) {
        if (!isField(field) || !in(thing, 0, 5) || !in(v, 0, 500)) {
            return BAD;
        }
        Asker a = fields.get(field);
        if (a.state != 0) {
            return NO;
        }
        int was = a.needs[thing];
        a.needs[thing] = v;
        return was;
    }

    int rain(int day, boolean is) {
        if (!in(day, 0, 60)) {
            return BAD;
        }
        wet[day] = is;
        return 1;
    }

    int take(int field) {
        if (!isField(field)) {
            return BAD;
        }
        if (fields.get(field).state != 0 || !setFits(standing(1) + (1 << field))) {
            return NO;
        }
        fields.get(field).state = 1;
        return 1;
    }

    int hire(int field) {
        if (!isField(field)) {
            return BAD;
        }
        if (fields.get(field).state != 0) {
            return NO;
        }
        fields.get(field).state = 1;
        return Math.toIntExact(hiredFor(standing(1)));
    }

    int giveUp(int field) {
        if (!isField(field)) {
            return BAD;
        }
        if (fields.get(field).state > 1) {
            return NO;
        }
        fields.get(field).state = 2;
        return 1;
    }

    int change(int field, int thing, int v) {
        if (!isField(field) || !in(thing, 0, 5) || !in(v, 0, 500)) {
            return BAD;
        }
        if (fields.get(field).state != 1) {
            return NO;
        }
        fields.get(field).needs[thing] = v;
        return setFits(standing(1)) ? 1 : 0;
    }

    int back(int field) {
        if (!isField(field)) {
            return BAD;
        }
        if (fields.get(field).state != 1) {
            return NO;
        }
        fields.get(field).state = 3;
        return 1;
    }

    int missing(int field, int thing, int n) {
        if (!isField(field) || !in(thing, 0, 5) || !in(n, 0, fields.get(field).needs[thing])) {
            return BAD;
        }
        Asker a = fields.get(field);
        if (a.state != 3 || a.told[thing]) {
            return NO;
        }
        a.told[thing] = true;
        things[thing].gone += n;
        bills += n * things[thing].cost;
        return n * things[thing].cost;
    }

    int mend(int thing, int n) {
        if (!in(thing, 0, 5) || !in(n, 0, 1000)) {
            return BAD;
        }
        if (n > things[thing].gone) {
            return NO;
        }
        things[thing].gone -= n;
        return things[thing].gone;
    }

    int about(int field, int what) {
        if (!isField(field) || !in(what, 0, 6)) {
            return BAD;
        }
        Asker a = fields.get(field);
        return new int[] {a.state, a.first, a.last, a.price, a.soil, a.bays, a.stakes}[what];
    }

    int lack(int thing, int day) {
        return in(thing, 0, 5) && in(day, 0, 65) ? lackOf(standing(1), thing, day) : BAD;
    }

    int fits(int set) {
        return !isSet(set) ? BAD : setFits(set) ? 1 : 0;
    }

    int best() {
        int taken = standing(1), asked = standing(0);
        if (!setFits(taken)) {
            return NO;
        }
        int found = -1;
        for (int set = asked;; set = set - 1 & asked) {
            boolean better = found < 0 || prices(set) > prices(found) || prices(set) == prices(found) && set < found;
            if (better && setFits(set | taken)) {
                found = set;
            }
            if (set == 0) {
                return found;
            }
        }
    }

    int dearest() {
        int taken = standing(1), asked = standing(0), found = 0;
        long most = Long.MIN_VALUE;
        for (int set = asked;; set = set - 1 & asked) {
            long worth = prices(set) - (hiredFor(set | taken) - hiredFor(taken));
            if (worth >= most) {
                most = worth;
                found = set;
            }
            if (set == 0) {
                return found;
            }
        }
    }

    long hired(int set) {
        return isSet(set) ? hiredFor(set) : BAD;
    }

    int fewest() {
        int taken = standing(1);
        for (int many = 0; many <= 10; many++) {
            int found = -1;
            for (int set = 0; set < 1024; set++) {
                boolean may = Integer.bitCount(set) == many && (set & taken) == set && setFits(taken - set);
                if (may && (found < 0 || prices(set) < prices(found))) {
                    found = set;
                }
            }
            if (found >= 0) {
                return found;
            }
        }
        return BAD;
    }

    int bays(int guests, int seats) {
        if (!in(guests, 1, 5000) || !in(seats, 4, 60)) {
            return BAD;
        }
        return guests / seats + (guests % seats == 0 ? 0 : 1);
    }

    int law(int from, int doors) {
        if (!in(from, 1, 5000) || !in(doors, 1, 200)) {
            return BAD;
        }
        int[] last = lines.isEmpty() ? new int[2] : lines.get(lines.size() - 1);
        if (from <= last[0] || doors <= last[1]) {
            return NO;
        }
        if (lines.size() == 6) {
            return FULL;
        }
        lines.add(new int[] {from, doors});
        return lines.size();
    }

    int unlaw() {
        int were = lines.size();
        lines.clear();
        return were;
    }

    int doors(int guests) {
        if (!in(guests, 1, 5000)) {
            return BAD;
        }
        for (int i = lines.size() - 1; i >= 0; i--) {
            if (lines.get(i)[0] <= guests) {
                return lines.get(i)[1];
            }
        }
        return 1;
    }

    int keeps(int guests, int b) {
        if (!in(guests, 1, 5000) || !in(b, 1, 2000)) {
            return BAD;
        }
        return doors(guests) > b + b + 1 + 1 ? 0 : 1;
    }

    int soil(int s, int h) {
        if (!in(s, 0, 3) || !in(h, 1, 1000)) {
            return BAD;
        }
        int was = hold[s];
        hold[s] = h;
        return was;
    }

    int pitch(int field, int soil, int bays, int stakes) {
        if (!isField(field) || !in(soil, 0, 3) || !in(bays, 0, 99) || !in(stakes, 0, 999)) {
            return BAD;
        }
        Asker a = fields.get(field);
        a.soil = soil;
        a.bays = bays;
        a.stakes = stakes;
        return 1;
    }

    int bears(int field) {
        if (!isField(field)) {
            return BAD;
        }
        Asker a = fields.get(field);
        int v = 0;
        while (v < 60 && (v + 1) * (v + 1) * a.bays <= hold[a.soil] * a.stakes) {
            v++;
        }
        return v;
    }

    int gust(int day, int v) {
        if (!in(day, 0, 60) || !in(v, 0, 60)) {
            return BAD;
        }
        int set = 0;
        for (int f = 0; f < fields.size(); f++) {
            Asker a = fields.get(f);
            set += a.state == 1 && in(day, a.first, a.last) && v > bears(f) ? 1 << f : 0;
        }
        return set;
    }

    private List<Integer> ofDay(int day) {
        List<Integer> those = new ArrayList<>();
        for (int f = 0; f < fields.size(); f++) {
            Asker a = fields.get(f);
            if (a.state == 1 && (a.first == day || a.last == day)) {
                those.add(f);
            }
        }
        return those;
    }

    /** The greatest sum, then each field's crew, of the best way from place at on; ways come in their order. */
    private int[] share(List<Integer> those, int[] crews, int at, int n) {
        if (at == those.size()) {
            int[] sums = new int[n + 1];
            for (int i = 0; i < at; i++) {
                sums[crews[i]] += 2 * fields.get(those.get(i)).bays + 1;
            }
            int[] way = new int[at + 1];
            System.arraycopy(crews, 0, way, 1, at);
            for (int sum : sums) {
                way[0] = Math.max(way[0], sum);
            }
            return way;
        }
        int[] found = null;
        for (int c = 0; c < n; c++) {
            crews[at] = c;
            int[] way = share(those, crews, at + 1, n);
            if (found == null || way[0] < found[0]) {
                found = way;
            }
        }
        return found;
    }

    int hours(int day, int n) {
        if (!in(day, 0, 60) || !in(n, 1, 3)) {
            return BAD;
        }
        return share(ofDay(day), new int[10], 0, n)[0];
    }

    int crew(int day, int n, int field) {
        if (!in(day, 0, 60) || !in(n, 1, 3) || !isField(field)) {
            return BAD;
        }
        List<Integer> those = ofDay(day);
        int at = those.indexOf(field);
        return at < 0 ? NONE : share(those, new int[10], 0, n)[at + 1];
    }

    int loads(int day, int room) {
        if (!in(day, 0, 60) || !in(room, 1, 100000)) {
            return BAD;
        }
        int sum = 0;
        for (int f : ofDay(day)) {
            for (int t = 0; t < 6; t++) {
                sum += things[t].weight * fields.get(f).needs[t];
            }
        }
        return sum / room + (sum % room == 0 ? 0 : 1);
    }

    int count(int what) {
        int rains = 0, gone = 0;
        for (boolean is : wet) {
            rains += is ? 1 : 0;
        }
        for (Thing t : things) {
            gone += t.gone;
        }
        int[] all = {fields.size(), Integer.bitCount(standing(1)), lines.size(), rains, gone, bills};
        return in(what, 0, 5) ? all[what] : BAD;
    }

    long digest() {
        List<Integer> values = new ArrayList<>();
        for (int what = 0; what <= 5; what++) {
            values.add(count(what));
        }
        for (int f = 0; f < fields.size(); f++) {
            for (int what = 0; what <= 6; what++) {
                values.add(about(f, what));
            }
            for (int v : fields.get(f).needs) {
                values.add(v);
            }
        }
        for (Thing t : things) {
            values.add(t.own);
            values.add(t.gone);
        }
        for (int[] line : lines) {
            values.add(line[0]);
            values.add(line[1]);
        }
        for (int h : hold) {
            values.add(h);
        }
        long h = 179;
        for (int v : values) {
            h = 31 * h + v;
        }
        return h;
    }
}
