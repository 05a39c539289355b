import java.util.ArrayList;
import java.util.List;

/** Yards that the tests of boundaries start from, and a look at all that a yard can tell of itself. */
final class Yards {
    static final int ASKED = 0, TAKEN = 1, GIVEN_UP = 2, BACK = 3;

    private Yards() {
    }

    /** Eight fields of all four kinds, each needing some of each thing; three lines; what is told missing of field 6. */
    static TentYard mixed() {
        TentYard x = new TentYard();
        for (int t = 0; t < 6; t++) {
            x.thing(t, 10 * t + 12, t, t + 1, t + 2, 3 * t + 1);
        }
        int[][] days = {{0, 5}, {3, 5}, {1, 12}, {2, 12}, {5, 9}, {4, 8}, {0, 2}, {12, 60}};
        for (int f = 0; f < days.length; f++) {
            x.field(days[f][0], days[f][1], 10 * f + 50);
            x.pitch(f, f % 4, 3 * f, 40 + f);
            for (int t = 0; t < 6; t++) {
                x.need(f, t, 2 + (f + t) % 4);
            }
        }
        int[] kinds = {ASKED, TAKEN, GIVEN_UP, BACK, TAKEN, ASKED, BACK, TAKEN};
        for (int f = 0; f < kinds.length; f++) {
            bring(x, f, kinds[f]);
        }
        x.rain(5, true);
        x.rain(12, true);
        x.missing(6, 0, 1);
        x.missing(6, 1, 2);
        x.law(50, 2);
        x.law(200, 12);
        x.law(1000, 40);
        x.soil(1, 300);
        return x;
    }

    /** The mixed yard with ten fields and six lines, the last of which another one could rise above. */
    static TentYard full() {
        TentYard x = mixed();
        x.field(6, 7, 10);
        x.field(7, 7, 20);
        x.law(2000, 50);
        x.law(3000, 60);
        x.law(4000, 70);
        return x;
    }

    /** An asked field comes to stand as told. */
    static void bring(TentYard x, int field, int state) {
        if (state == TAKEN || state == BACK) {
            x.hire(field);
        }
        if (state == BACK) {
            x.back(field);
        }
        if (state == GIVEN_UP) {
            x.giveUp(field);
        }
    }

    /** Fields on day 5 alone, taken, with the bays told. */
    static TentYard pitched(int... bays) {
        TentYard x = new TentYard();
        for (int f = 0; f < bays.length; f++) {
            x.field(5, 5, 0);
            x.pitch(f, 0, bays[f], 0);
            x.take(f);
        }
        return x;
    }

    /**
     * What a yard answers to questions, and, last, to calls that show what no question does (costs, what soils held).
     * It is good for one look at a yard, and takes less than 300 calls.
     */
    static List<Long> look(TentYard x) {
        List<Long> seen = new ArrayList<>();
        int[] days = {0, 4, 5, 6, 9, 10, 12, 13, 17, 60};
        for (int what = 0; what <= 5; what++) {
            seen.add((long) x.count(what));
        }
        seen.add(x.digest());
        seen.add((long) x.best());
        seen.add((long) x.dearest());
        seen.add((long) x.fewest());
        for (int day : days) {
            for (int t = 0; t < 6; t++) {
                seen.add((long) x.lack(t, day));
            }
            seen.add((long) x.hours(day, 2));
            seen.add((long) x.gust(day, 12));
            seen.add((long) x.loads(day, 1));
        }
        int fields = x.count(0);
        for (int f = 0; f < fields; f++) {
            seen.add((long) x.bears(f));
            seen.add((long) x.crew(5, 2, f));
            seen.add(x.hired(1 << f));
            seen.add(x.hired((1 << fields) - 1 - (1 << f)));
        }
        for (int g = 50; g <= 5000; g += 450) {
            seen.add((long) x.doors(g));
        }
        for (int t = 0; t < 6; t++) {
            seen.add((long) x.missing(6, t, 1));
            seen.add((long) x.missing(3, t, 2));
            seen.add((long) x.mend(t, 0));
        }
        for (int s = 0; s < 4; s++) {
            seen.add((long) x.soil(s, 1));
        }
        seen.add((long) x.unlaw());
        seen.add(x.digest());
        return seen;
    }
}
