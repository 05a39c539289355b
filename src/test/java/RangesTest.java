import java.util.ArrayList;
import java.util.List;

/**
 * Every number of every call at the ends of the range that the document tells, and beyond them: at an end it is as
 * told, beyond it the call is BAD and changes nothing.
 */
public final class RangesTest {
    private static final int BAD = -2;
    private static final int LEAST = Integer.MIN_VALUE, MOST = Integer.MAX_VALUE;

    /** Wrong for every number of every call; by shifts, products or sums that wrap around some would come into range. */
    private static final int[] WRONG = {LEAST, LEAST + 1, MOST, MOST - 1, 1 << 30, -(1 << 30), 1 << 20, -32, -64,
        715827883, -715827882, 0x10001 << 3, LEAST + 1000, -1000};

    private interface Call {
        long on(TentYard x, int[] numbers);
    }

    /** A call with numbers that are as told, and between what each of them may lie while the others stay. */
    private record Row(int promise, String name, int[] good, int[] least, int[] most, Call call) {
        long answer(TentYard x, int[] numbers) {
            return call.on(x, numbers);
        }

        int[] with(int place, int v) {
            int[] numbers = good.clone();
            numbers[place] = v;
            return numbers;
        }
    }

    private final List<Row> rows = new ArrayList<>();
    private final List<Long> untouched = Yards.look(Yards.mixed());

    public static void main(String[] args) {
        RangesTest test = new RangesTest();
        test.listTurns();
        test.listQuestions();
        test.listLayouts();
        for (Row row : test.rows) {
            Check.about("promise " + row.promise);
            test.ends(row);
            test.beyond(row);
            test.manyWrong(row);
        }
        Check.due("rows", test.rows.size(), 28);
        Check.end("RangesTest");
    }

    private void row(int promise, String name, int[] good, int[] least, int[] most, Call call) {
        rows.add(new Row(promise, name, good, least, most, call));
    }

    private static int[] n(int... numbers) {
        return numbers;
    }

    private void listTurns() {
        row(2, "thing", n(2, 7, 1, 3, 4, 5), n(0, 0, 0, 1, 0, 0), n(5, 1000, 5, 100, 1000, 10000),
                (x, a) -> x.thing(a[0], a[1], a[2], a[3], a[4], a[5]));
        row(3, "field", n(3, 9, 5), n(0, 3, 0), n(9, 60, 100000), (x, a) -> x.field(a[0], a[1], a[2]));
        row(4, "need", n(0, 1, 3), n(0, 0, 0), n(7, 5, 500), (x, a) -> x.need(a[0], a[1], a[2]));
        row(5, "rain true", n(7), n(0), n(60), (x, a) -> x.rain(a[0], true));
        row(5, "rain false", n(5), n(0), n(60), (x, a) -> x.rain(a[0], false));
        row(6, "take", n(0), n(0), n(7), (x, a) -> x.take(a[0]));
        row(7, "hire", n(0), n(0), n(7), (x, a) -> x.hire(a[0]));
        row(8, "giveUp", n(0), n(0), n(7), (x, a) -> x.giveUp(a[0]));
        row(9, "change", n(1, 1, 3), n(0, 0, 0), n(7, 5, 500), (x, a) -> x.change(a[0], a[1], a[2]));
        row(10, "back", n(1), n(0), n(7), (x, a) -> x.back(a[0]));
        row(11, "missing", n(3, 2, 1), n(0, 0, 0), n(7, 5, 3), (x, a) -> x.missing(a[0], a[1], a[2]));
        row(12, "mend", n(0, 1), n(0, 0), n(5, 1000), (x, a) -> x.mend(a[0], a[1]));
    }

    private void listQuestions() {
        row(13, "about", n(1, 3), n(0, 0), n(7, 6), (x, a) -> x.about(a[0], a[1]));
        row(14, "lack", n(1, 5), n(0, 0), n(5, 65), (x, a) -> x.lack(a[0], a[1]));
        row(15, "fits", n(3), n(0), n(255), (x, a) -> x.fits(a[0]));
        row(18, "hired", n(3), n(0), n(255), (x, a) -> x.hired(a[0]));
        row(32, "count", n(1), n(0), n(5), (x, a) -> x.count(a[0]));
    }

    private void listLayouts() {
        row(20, "bays", n(100, 10), n(1, 4), n(5000, 60), (x, a) -> x.bays(a[0], a[1]));
        row(21, "law", n(2000, 60), n(1, 1), n(5000, 200), (x, a) -> x.law(a[0], a[1]));
        row(23, "doors", n(100), n(1), n(5000), (x, a) -> x.doors(a[0]));
        row(24, "keeps", n(100, 3), n(1, 1), n(5000, 2000), (x, a) -> x.keeps(a[0], a[1]));
        row(25, "soil", n(1, 50), n(0, 1), n(3, 1000), (x, a) -> x.soil(a[0], a[1]));
        row(26, "pitch", n(0, 1, 2, 3), n(0, 0, 0, 0), n(7, 3, 99, 999), (x, a) -> x.pitch(a[0], a[1], a[2], a[3]));
        row(27, "bears", n(0), n(0), n(7), (x, a) -> x.bears(a[0]));
        row(28, "gust", n(5, 20), n(0, 0), n(60, 60), (x, a) -> x.gust(a[0], a[1]));
        row(29, "hours", n(5, 2), n(0, 1), n(60, 3), (x, a) -> x.hours(a[0], a[1]));
        row(30, "crew", n(5, 2, 1), n(0, 1, 0), n(60, 3, 7), (x, a) -> x.crew(a[0], a[1], a[2]));
        row(31, "loads", n(5, 10), n(0, 1), n(60, 100000), (x, a) -> x.loads(a[0], a[1]));
    }

    private void ends(Row row) {
        notBad(row, row.good);
        for (int i = 0; i < row.good.length; i++) {
            notBad(row, row.with(i, row.least[i]));
            notBad(row, row.with(i, row.most[i]));
        }
    }

    private void notBad(Row row, int[] numbers) {
        Check.holds(told(row, numbers) + " is as told", row.answer(Yards.mixed(), numbers) != BAD);
    }

    private void beyond(Row row) {
        for (int i = 0; i < row.good.length; i++) {
            bad(row, row.with(i, row.least[i] - 1));
            bad(row, row.with(i, row.most[i] + 1));
            for (int v : WRONG) {
                bad(row, row.with(i, v));
            }
        }
    }

    /** Two wrong numbers do not make a right one, nor do wrong ones alone. */
    private void manyWrong(Row row) {
        int[] below = row.good.clone();
        int[] above = row.good.clone();
        for (int i = 0; i < row.good.length; i++) {
            for (int k = i + 1; k < row.good.length; k++) {
                int[] two = row.with(i, row.least[i] - 1);
                two[k] = row.most[k] + 1;
                bad(row, two);
            }
            below[i] = row.least[i] - 1;
            above[i] = row.most[i] + 1;
        }
        bad(row, below);
        bad(row, above);
    }

    private void bad(Row row, int[] numbers) {
        TentYard x = Yards.mixed();
        Check.due(told(row, numbers), row.answer(x, numbers), BAD);
        Check.holds(told(row, numbers) + " changes nothing", Yards.look(x).equals(untouched));
    }

    private static String told(Row row, int[] numbers) {
        StringBuilder text = new StringBuilder(row.name);
        for (int v : numbers) {
            text.append(' ').append(v);
        }
        return text.toString();
    }
}
