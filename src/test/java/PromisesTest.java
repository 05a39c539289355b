/** Each promise with ordinary numbers, at the edges that the document names, and with wrong numbers. */
public final class PromisesTest {
    private static final int NONE = -1, BAD = -2, NO = -3, FULL = -4;
    private static final int LEAST = Integer.MIN_VALUE, MOST = Integer.MAX_VALUE;

    public static void main(String[] args) {
        newObject();
        thing();
        field();
        need();
        rain();
        take();
        hire();
        giveUp();
        change();
        back();
        missing();
        missingIsToldOfEachThing();
        mend();
        about();
        lack();
        drying();
        fits();
        best();
        bestOfLikeOnes();
        dearest();
        dearestOfLikeOnes();
        hired();
        hiredAtItsMost();
        fewest();
        fewestOfLikeOnes();
        bays();
        law();
        unlaw();
        doors();
        keeps();
        soil();
        pitch();
        bears();
        gust();
        hours();
        crew();
        crewOfLikeOnes();
        loads();
        count();
        digest();
        Check.end("PromisesTest");
    }

    /** n fields of one day each, all on day 0, that need one of thing 0 and offer the prices told. */
    private static TentYard yard(int own, int... prices) {
        TentYard x = new TentYard();
        x.thing(0, own, 0, 1, 1, 1);
        for (int i = 0; i < prices.length; i++) {
            x.field(0, 0, prices[i]);
            x.need(i, 0, 1);
        }
        return x;
    }

    private static void newObject() {
        Check.about("promise 1");
        TentYard x = new TentYard();
        for (int what = 0; what <= 5; what++) {
            Check.due("count(" + what + ")", x.count(what), 0);
        }
        for (int day = 0; day <= 65; day++) {
            Check.due("lack(0, " + day + ")", x.lack(0, day), 0);
        }
        Check.due("best()", x.best(), 0);
        Check.due("dearest()", x.dearest(), 0);
        Check.due("fewest()", x.fewest(), 0);
        Check.due("fits(0)", x.fits(0), 1);
        Check.due("doors(5000)", x.doors(5000), 1);
        for (int s = 0; s <= 3; s++) {
            Check.due("soil(" + s + ", 1)", x.soil(s, 1), 100);
        }
        x = new TentYard();
        x.field(3, 4, 0);
        x.need(0, 5, 7);
        x.hire(0);
        Check.due("lack(5, 3): nothing is owned", x.lack(5, 3), 7);
        Check.due("hired(1): it costs nothing", x.hired(1), 0);
        Check.due("loads(3, 1): weight 1", x.loads(3, 1), 7);
        x.rain(4, true);
        Check.due("lack(5, 5): dry at once", x.lack(5, 5), 0);
        x.back(0);
        Check.due("missing(0, 5, 7): cost 0", x.missing(0, 5, 7), 0);
    }

    private static void thing() {
        Check.about("promise 2");
        TentYard x = new TentYard();
        Check.due("thing(0, 0, 0, 1, 0, 0)", x.thing(0, 0, 0, 1, 0, 0), 1);
        Check.due("thing(5, 1000, 5, 100, 1000, 10000)", x.thing(5, 1000, 5, 100, 1000, 10000), 1);
        Check.due("thing(-1, 0, 0, 1, 0, 0)", x.thing(-1, 0, 0, 1, 0, 0), BAD);
        Check.due("thing(6, 0, 0, 1, 0, 0)", x.thing(6, 0, 0, 1, 0, 0), BAD);
        Check.due("thing(0, -1, 0, 1, 0, 0)", x.thing(0, -1, 0, 1, 0, 0), BAD);
        Check.due("thing(0, 1001, 0, 1, 0, 0)", x.thing(0, 1001, 0, 1, 0, 0), BAD);
        Check.due("thing(0, 0, -1, 1, 0, 0)", x.thing(0, 0, -1, 1, 0, 0), BAD);
        Check.due("thing(0, 0, 6, 1, 0, 0)", x.thing(0, 0, 6, 1, 0, 0), BAD);
        Check.due("thing(0, 0, 0, 0, 0, 0)", x.thing(0, 0, 0, 0, 0, 0), BAD);
        Check.due("thing(0, 0, 0, 101, 0, 0)", x.thing(0, 0, 0, 101, 0, 0), BAD);
        Check.due("thing(0, 0, 0, 1, -1, 0)", x.thing(0, 0, 0, 1, -1, 0), BAD);
        Check.due("thing(0, 0, 0, 1, 1001, 0)", x.thing(0, 0, 0, 1, 1001, 0), BAD);
        Check.due("thing(0, 0, 0, 1, 0, -1)", x.thing(0, 0, 0, 1, 0, -1), BAD);
        Check.due("thing(0, 0, 0, 1, 0, 10001)", x.thing(0, 0, 0, 1, 0, 10001), BAD);
        Check.due("thing(MOST ..)", x.thing(MOST, MOST, MOST, MOST, MOST, MOST), BAD);
        x.field(60, 60, 0);
        x.need(0, 5, 500);
        x.rain(60, true);
        Check.due("take(0)", x.take(0), 1);
        Check.due("thing(5, 490, 4, 3, 7, 11)", x.thing(5, 490, 4, 3, 7, 11), 1);
        Check.due("lack(5, 64): own 490, drying 4", x.lack(5, 64), 10);
        Check.due("lack(5, 65)", x.lack(5, 65), 0);
        Check.due("hired(1): 10 on 5 days for 7", x.hired(1), 350);
        Check.due("loads(60, 1): weight 3", x.loads(60, 1), 1500);
        Check.due("thing(5, 0, 0, 0, 0, 0)", x.thing(5, 0, 0, 0, 0, 0), BAD);
        Check.due("hired(1): nothing changed", x.hired(1), 350);
        x.back(0);
        Check.due("missing(0, 5, 2): cost 11", x.missing(0, 5, 2), 22);
        Check.due("thing(5, 1, 0, 1, 0, 0)", x.thing(5, 1, 0, 1, 0, 0), 1);
        Check.due("count(4): what is gone stays gone", x.count(4), 2);
    }

    private static void field() {
        Check.about("promise 3");
        TentYard x = new TentYard();
        Check.due("field(-1, 0, 0)", x.field(-1, 0, 0), BAD);
        Check.due("field(0, -1, 0)", x.field(0, -1, 0), BAD);
        Check.due("field(0, 61, 0)", x.field(0, 61, 0), BAD);
        Check.due("field(61, 61, 0)", x.field(61, 61, 0), BAD);
        Check.due("field(5, 4, 0)", x.field(5, 4, 0), BAD);
        Check.due("field(0, 0, -1)", x.field(0, 0, -1), BAD);
        Check.due("field(0, 0, 100001)", x.field(0, 0, 100001), BAD);
        Check.due("field(LEAST, MOST, MOST)", x.field(LEAST, MOST, MOST), BAD);
        Check.due("count(0)", x.count(0), 0);
        Check.due("field(0, 60, 100000)", x.field(0, 60, 100000), 0);
        Check.due("field(60, 60, 0)", x.field(60, 60, 0), 1);
        for (int i = 2; i < 10; i++) {
            Check.due("field(0, 0, 0)", x.field(0, 0, 0), i);
        }
        Check.due("field(0, 0, 0): ten are there", x.field(0, 0, 0), FULL);
        Check.due("field(1, 0, 0): bad before full", x.field(1, 0, 0), BAD);
        Check.due("count(0)", x.count(0), 10);
        Check.due("about(9, 0)", x.about(9, 0), 0);
    }

    private static void need() {
        Check.about("promise 4");
        TentYard x = new TentYard();
        Check.due("need(0, 0, 0): no field", x.need(0, 0, 0), BAD);
        x.field(0, 0, 0);
        Check.due("need(0, 0, 500)", x.need(0, 0, 500), 0);
        Check.due("need(0, 0, 501)", x.need(0, 0, 501), BAD);
        Check.due("need(0, 0, -1)", x.need(0, 0, -1), BAD);
        Check.due("need(0, -1, 0)", x.need(0, -1, 0), BAD);
        Check.due("need(0, 6, 0)", x.need(0, 6, 0), BAD);
        Check.due("need(-1, 0, 0)", x.need(-1, 0, 0), BAD);
        Check.due("need(1, 0, 0)", x.need(1, 0, 0), BAD);
        Check.due("need(0, 0, 3)", x.need(0, 0, 3), 500);
        Check.due("need(0, 5, 4)", x.need(0, 5, 4), 0);
        Check.due("need(0, 0, 0)", x.need(0, 0, 0), 3);
        Check.due("need(0, 5, 0)", x.need(0, 5, 0), 4);
        Check.due("take(0)", x.take(0), 1);
        Check.due("need(0, 0, 1): taken", x.need(0, 0, 1), NO);
        Check.due("need(0, 0, 501): bad before no", x.need(0, 0, 501), BAD);
        x.back(0);
        Check.due("need(0, 0, 1): back", x.need(0, 0, 1), NO);
        x.field(0, 0, 0);
        x.giveUp(1);
        Check.due("need(1, 0, 1): given up", x.need(1, 0, 1), NO);
        Check.due("hired(3)", x.hired(3), 0);
    }

    private static void rain() {
        Check.about("promise 5");
        TentYard x = new TentYard();
        Check.due("rain(-1, true)", x.rain(-1, true), BAD);
        Check.due("rain(61, true)", x.rain(61, true), BAD);
        Check.due("rain(61, false)", x.rain(61, false), BAD);
        Check.due("rain(MOST, true)", x.rain(MOST, true), BAD);
        Check.due("count(3)", x.count(3), 0);
        Check.due("rain(0, true)", x.rain(0, true), 1);
        Check.due("rain(60, true)", x.rain(60, true), 1);
        Check.due("rain(60, true) again", x.rain(60, true), 1);
        Check.due("count(3)", x.count(3), 2);
        Check.due("rain(60, false)", x.rain(60, false), 1);
        Check.due("rain(60, false) again", x.rain(60, false), 1);
        Check.due("count(3)", x.count(3), 1);
    }

    private static void take() {
        Check.about("promise 6");
        TentYard x = yard(2, 0, 0, 0);
        Check.due("take(-1)", x.take(-1), BAD);
        Check.due("take(3)", x.take(3), BAD);
        Check.due("take(0)", x.take(0), 1);
        Check.due("take(0) again", x.take(0), NO);
        Check.due("take(1)", x.take(1), 1);
        Check.due("take(2): two are owned", x.take(2), NO);
        Check.due("about(2, 0)", x.about(2, 0), 0);
        x.giveUp(1);
        Check.due("take(2)", x.take(2), 1);
        Check.due("take(1): given up", x.take(1), NO);
        x.back(0);
        Check.due("take(0): back", x.take(0), NO);
        x.field(9, 9, 0);
        x.change(2, 0, 3);
        Check.due("take(3): it needs nothing, but those taken do not fit", x.take(3), NO);
        x.change(2, 0, 2);
        Check.due("take(3)", x.take(3), 1);
    }

    private static void hire() {
        Check.about("promise 7");
        TentYard x = new TentYard();
        x.thing(0, 3, 0, 1, 10, 0);
        x.thing(1, 0, 0, 1, 7, 0);
        x.field(0, 4, 0);
        x.field(2, 9, 0);
        x.need(0, 0, 3);
        x.need(1, 0, 2);
        x.need(1, 1, 1);
        Check.due("hire(-1)", x.hire(-1), BAD);
        Check.due("hire(2)", x.hire(2), BAD);
        Check.due("hire(0): it lacks nothing", x.hire(0), 0);
        Check.due("hire(0) again", x.hire(0), NO);
        Check.due("hire(1): 2 on days 2 to 4, 1 on 8 days", x.hire(1), 2 * 3 * 10 + 8 * 7);
        Check.due("about(1, 0)", x.about(1, 0), 1);
        x.field(0, 0, 0);
        Check.due("hire(2): of all that are taken", x.hire(2), 116);
        x.back(1);
        Check.due("hire(1): back", x.hire(1), NO);
        x.giveUp(0);
        Check.due("hire(0): given up", x.hire(0), NO);
        x = yard(1, 0, 0);
        x.take(0);
        Check.due("take(1)", x.take(1), NO);
        x.need(1, 0, 4);
        x.thing(0, 2, 0, 1, 3, 0);
        Check.due("hire(1): with what it needs now, of what is owned now", x.hire(1), 9);
    }

    private static void giveUp() {
        Check.about("promise 8");
        TentYard x = yard(9, 0, 0, 0);
        Check.due("giveUp(-1)", x.giveUp(-1), BAD);
        Check.due("giveUp(3)", x.giveUp(3), BAD);
        Check.due("giveUp(0): asked", x.giveUp(0), 1);
        Check.due("about(0, 0)", x.about(0, 0), 2);
        Check.due("giveUp(0) again", x.giveUp(0), NO);
        x.take(1);
        Check.due("giveUp(1): taken", x.giveUp(1), 1);
        Check.due("count(1)", x.count(1), 0);
        x.take(2);
        x.back(2);
        Check.due("giveUp(2): back", x.giveUp(2), NO);
        Check.due("about(2, 0)", x.about(2, 0), 3);
    }

    private static void change() {
        Check.about("promise 9");
        TentYard x = yard(5, 0, 0);
        Check.due("change(0, 0, 1): asked", x.change(0, 0, 1), NO);
        x.take(0);
        x.take(1);
        Check.due("change(-1, 0, 0)", x.change(-1, 0, 0), BAD);
        Check.due("change(2, 0, 0)", x.change(2, 0, 0), BAD);
        Check.due("change(0, -1, 0)", x.change(0, -1, 0), BAD);
        Check.due("change(0, 6, 0)", x.change(0, 6, 0), BAD);
        Check.due("change(0, 0, -1)", x.change(0, 0, -1), BAD);
        Check.due("change(0, 0, 501)", x.change(0, 0, 501), BAD);
        Check.due("change(0, 0, 4)", x.change(0, 0, 4), 1);
        Check.due("change(0, 0, 5)", x.change(0, 0, 5), 0);
        Check.due("lack(0, 0)", x.lack(0, 0), 1);
        Check.due("change(0, 5, 500)", x.change(0, 5, 500), 0);
        Check.due("change(0, 0, 0): thing 5 still lacks", x.change(0, 0, 0), 0);
        Check.due("change(0, 5, 0)", x.change(0, 5, 0), 1);
        x.back(0);
        Check.due("change(0, 0, 0): back", x.change(0, 0, 0), NO);
        x.giveUp(1);
        Check.due("change(1, 0, 0): given up", x.change(1, 0, 0), NO);
        Check.due("change(1, 0, 501): bad before no", x.change(1, 0, 501), BAD);
    }

    private static void back() {
        Check.about("promise 10");
        TentYard x = yard(1, 0, 0);
        Check.due("back(-1)", x.back(-1), BAD);
        Check.due("back(2)", x.back(2), BAD);
        Check.due("back(0): asked", x.back(0), NO);
        x.take(0);
        Check.due("back(0)", x.back(0), 1);
        Check.due("about(0, 0)", x.about(0, 0), 3);
        Check.due("back(0) again", x.back(0), NO);
        Check.due("lack(0, 0)", x.lack(0, 0), 0);
        Check.due("take(1): what is back is free", x.take(1), 1);
        x.giveUp(1);
        Check.due("back(1): given up", x.back(1), NO);
    }

    private static void missing() {
        Check.about("promise 11");
        TentYard x = new TentYard();
        x.thing(0, 10, 0, 1, 0, 10000);
        x.field(0, 0, 0);
        x.field(0, 0, 0);
        x.need(0, 0, 5);
        x.need(1, 0, 10);
        Check.due("missing(0, 0, 5): asked", x.missing(0, 0, 5), NO);
        Check.due("missing(0, 0, 6): bad before no", x.missing(0, 0, 6), BAD);
        x.take(0);
        Check.due("missing(0, 0, 5): taken", x.missing(0, 0, 5), NO);
        x.change(0, 0, 7);
        x.back(0);
        Check.due("missing(-1, 0, 0)", x.missing(-1, 0, 0), BAD);
        Check.due("missing(2, 0, 0)", x.missing(2, 0, 0), BAD);
        Check.due("missing(0, -1, 0)", x.missing(0, -1, 0), BAD);
        Check.due("missing(0, 6, 0)", x.missing(0, 6, 0), BAD);
        Check.due("missing(0, 0, -1)", x.missing(0, 0, -1), BAD);
        Check.due("missing(0, 0, 8): it needed 7 at last", x.missing(0, 0, 8), BAD);
        Check.due("count(4)", x.count(4), 0);
        Check.due("missing(0, 0, 7)", x.missing(0, 0, 7), 70000);
        Check.due("missing(0, 0, 0): told", x.missing(0, 0, 0), NO);
        Check.due("missing(0, 0, 8): bad before no", x.missing(0, 0, 8), BAD);
        Check.due("count(4)", x.count(4), 7);
        Check.due("count(5)", x.count(5), 70000);
        Check.due("take(1): three are left", x.take(1), NO);
        x.hire(1);
        Check.due("lack(0, 0)", x.lack(0, 0), 7);
        x.back(1);
        Check.due("missing(1, 0, 10)", x.missing(1, 0, 10), 100000);
        Check.due("count(4): more than is owned", x.count(4), 17);
        Check.due("count(5)", x.count(5), 170000);
        x.field(0, 0, 0);
        x.need(2, 0, 4);
        x.hire(2);
        Check.due("lack(0, 0): what is below 0 counts as 0", x.lack(0, 0), 4);
        x.giveUp(2);
        Check.due("missing(2, 0, 4): given up", x.missing(2, 0, 4), NO);
    }

    private static void missingIsToldOfEachThing() {
        TentYard x = new TentYard();
        x.thing(0, 9, 0, 1, 0, 2);
        x.thing(5, 9, 0, 1, 0, 3);
        x.field(0, 0, 0);
        x.field(0, 0, 0);
        x.need(0, 0, 4);
        x.need(0, 5, 4);
        x.need(1, 5, 4);
        x.take(0);
        x.take(1);
        x.back(0);
        x.back(1);
        Check.due("missing(0, 0, 0)", x.missing(0, 0, 0), 0);
        Check.due("missing(0, 0, 1): that none is missing was told", x.missing(0, 0, 1), NO);
        Check.due("missing(0, 5, 2): another thing", x.missing(0, 5, 2), 6);
        Check.due("missing(1, 5, 3): another field", x.missing(1, 5, 3), 9);
        x.thing(5, 9, 0, 1, 0, 1000);
        Check.due("count(5): a bill stays as it was", x.count(5), 15);
        x.mend(5, 5);
        Check.due("count(5)", x.count(5), 15);
        Check.due("missing(1, 5, 1): told, though mended", x.missing(1, 5, 1), NO);
        for (int f = 2; f < 10; f++) {
            x.field(60, 60, 0);
            x.need(f, 5, f);
            x.take(f);
            x.back(f);
        }
        for (int f = 2; f < 10; f++) {
            Check.due("missing(" + f + ", 5, " + f + ")", x.missing(f, 5, f), 1000 * f);
            Check.due("missing(" + f + ", 5, " + f + ") again", x.missing(f, 5, f), NO);
        }
    }

    private static void mend() {
        Check.about("promise 12");
        TentYard x = new TentYard();
        x.field(0, 0, 0);
        x.field(0, 0, 0);
        x.field(0, 0, 0);
        for (int f = 0; f < 3; f++) {
            x.need(f, 2, 500);
            x.hire(f);
            x.back(f);
            x.missing(f, 2, 500);
        }
        Check.due("mend(-1, 0)", x.mend(-1, 0), BAD);
        Check.due("mend(6, 0)", x.mend(6, 0), BAD);
        Check.due("mend(2, -1)", x.mend(2, -1), BAD);
        Check.due("mend(2, 1001)", x.mend(2, 1001), BAD);
        Check.due("mend(2, 0)", x.mend(2, 0), 1500);
        Check.due("mend(2, 1000)", x.mend(2, 1000), 500);
        Check.due("mend(2, 501)", x.mend(2, 501), NO);
        Check.due("mend(2, 499)", x.mend(2, 499), 1);
        Check.due("mend(3, 1)", x.mend(3, 1), NO);
        Check.due("mend(2, 1)", x.mend(2, 1), 0);
        Check.due("count(4)", x.count(4), 0);
    }

    private static void about() {
        Check.about("promise 13");
        TentYard x = new TentYard();
        Check.due("about(0, 0): no field", x.about(0, 0), BAD);
        x.field(3, 9, 77);
        int[] due = {0, 3, 9, 77, 0, 0, 0};
        for (int what = 0; what < due.length; what++) {
            Check.due("about(0, " + what + ")", x.about(0, what), due[what]);
        }
        x.pitch(0, 3, 99, 999);
        Check.due("about(0, 4)", x.about(0, 4), 3);
        Check.due("about(0, 5)", x.about(0, 5), 99);
        Check.due("about(0, 6)", x.about(0, 6), 999);
        Check.due("about(0, 7)", x.about(0, 7), BAD);
        Check.due("about(0, -1)", x.about(0, -1), BAD);
        Check.due("about(-1, 0)", x.about(-1, 0), BAD);
        Check.due("about(1, 0)", x.about(1, 0), BAD);
    }

    private static void lack() {
        Check.about("promise 14");
        TentYard x = new TentYard();
        x.thing(1, 10, 0, 1, 0, 0);
        x.field(2, 4, 0);
        x.field(4, 6, 0);
        x.field(0, 60, 0);
        x.need(0, 1, 6);
        x.need(1, 1, 7);
        x.need(2, 1, 500);
        Check.due("lack(1, 4): none is taken", x.lack(1, 4), 0);
        x.hire(0);
        x.hire(1);
        int[] due = {0, 0, 0, 0, 3, 0, 0, 0};
        for (int day = 0; day < due.length; day++) {
            Check.due("lack(1, " + day + ")", x.lack(1, day), due[day]);
        }
        Check.due("lack(0, 4): another thing", x.lack(0, 4), 0);
        Check.due("lack(-1, 0)", x.lack(-1, 0), BAD);
        Check.due("lack(6, 0)", x.lack(6, 0), BAD);
        Check.due("lack(0, -1)", x.lack(0, -1), BAD);
        Check.due("lack(0, 65)", x.lack(0, 65), 0);
        Check.due("lack(0, 66)", x.lack(0, 66), BAD);
        Check.due("lack(5, MOST)", x.lack(5, MOST), BAD);
    }

    private static void drying() {
        TentYard x = new TentYard();
        x.thing(0, 0, 5, 1, 1, 0);
        x.thing(1, 0, 0, 1, 1, 0);
        x.thing(2, 0, 2, 1, 1, 0);
        x.field(59, 60, 0);
        x.need(0, 0, 3);
        x.need(0, 1, 3);
        x.need(0, 2, 3);
        x.hire(0);
        x.rain(59, true);
        Check.due("lack(0, 61): rain, but not on its last day", x.lack(0, 61), 0);
        Check.due("lack(0, 58)", x.lack(0, 58), 0);
        x.rain(60, true);
        Check.due("lack(0, 61)", x.lack(0, 61), 3);
        Check.due("lack(0, 65): five days to dry", x.lack(0, 65), 3);
        Check.due("lack(1, 60)", x.lack(1, 60), 3);
        Check.due("lack(1, 61): dry at once", x.lack(1, 61), 0);
        Check.due("lack(2, 62)", x.lack(2, 62), 3);
        Check.due("lack(2, 63)", x.lack(2, 63), 0);
        Check.due("hired(1): 7 days, 2 days, 4 days", x.hired(1), 3 * (7 + 2 + 4));
        x.rain(60, false);
        Check.due("lack(0, 61): no rain after all", x.lack(0, 61), 0);
        Check.due("hired(1)", x.hired(1), 3 * 6);
        x = new TentYard();
        x.thing(0, 0, 1, 1, 1, 0);
        x.field(0, 0, 0);
        x.need(0, 0, 1);
        x.rain(0, true);
        x.hire(0);
        Check.due("lack(0, 1): rain on day 0", x.lack(0, 1), 1);
        Check.due("lack(0, 2)", x.lack(0, 2), 0);
    }

    private static void fits() {
        Check.about("promise 15");
        TentYard x = yard(2, 0, 0, 0);
        Check.due("fits(0)", x.fits(0), 1);
        Check.due("fits(3)", x.fits(3), 1);
        Check.due("fits(7)", x.fits(7), 0);
        Check.due("fits(8)", x.fits(8), BAD);
        Check.due("fits(9)", x.fits(9), BAD);
        Check.due("fits(-1)", x.fits(-1), BAD);
        Check.due("fits(LEAST)", x.fits(LEAST), BAD);
        Check.due("fits(1 << 30)", x.fits(1 << 30), BAD);
        x.take(0);
        x.take(1);
        Check.due("fits(4): the set alone, without those taken", x.fits(4), 1);
        x.giveUp(2);
        Check.due("fits(7): of fields that stand in any way", x.fits(7), 0);
        x.change(0, 0, 3);
        Check.due("fits(0)", x.fits(0), 1);
        Check.due("fits(1)", x.fits(1), 0);
        TentYard y = new TentYard();
        y.thing(0, 4, 5, 1, 0, 0);
        y.rain(60, true);
        for (int f = 0; f < 10; f++) {
            y.field(f < 2 ? 60 : f, f < 2 ? 60 : f, 0);
            y.need(f, 0, f < 2 ? 2 + f : 4);
        }
        Check.due("fits(1023)", y.fits(1023), 0);
        Check.due("fits(1020)", y.fits(1020), 1);
        Check.due("fits(1022)", y.fits(1022), 1);
        Check.due("fits(1024)", y.fits(1024), BAD);
        y.thing(0, 0, 0, 1, 0, 0);
        for (int f = 0; f < 10; f++) {
            y.need(f, 0, 0);
        }
        Check.due("fits(1023): nothing is needed", y.fits(1023), 1);
    }

    private static void best() {
        Check.about("promise 16");
        TentYard x = yard(2, 10, 20, 30);
        Check.due("best()", x.best(), 6);
        x.take(0);
        Check.due("best(): with what is taken, told without it", x.best(), 4);
        x.field(5, 5, 7);
        Check.due("best()", x.best(), 12);
        x.giveUp(2);
        Check.due("best(): without what is given up", x.best(), 10);
        x.change(0, 0, 2);
        Check.due("best()", x.best(), 8);
        x.change(0, 0, 3);
        Check.due("best(): those taken do not fit", x.best(), NO);
        x.back(0);
        Check.due("best()", x.best(), 10);
        x.need(1, 0, 4);
        x.giveUp(3);
        Check.due("best(): none fits", x.best(), 0);
        Check.due("best(): a price of 1", yard(1, 1).best(), 1);
        TentYard y = new TentYard();
        for (int f = 0; f < 10; f++) {
            y.field(0, 60, 100000);
        }
        Check.due("best(): all", y.best(), 1023);
    }

    private static void bestOfLikeOnes() {
        Check.due("best(): the least number", yard(1, 5, 5, 5).best(), 1);
        Check.due("best(): 3 and 4 offer the same", yard(2, 3, 3, 3).best(), 3);
        Check.due("best(): what offers nothing stays out", yard(9, 0, 5, 0).best(), 2);
        TentYard x = new TentYard();
        x.thing(0, 2, 0, 1, 0, 0);
        x.field(0, 0, 3);
        x.field(0, 0, 4);
        x.field(0, 0, 7);
        x.need(0, 0, 1);
        x.need(1, 0, 1);
        x.need(2, 0, 2);
        Check.due("best(): 3 + 4 as 7", x.best(), 3);
    }

    private static void dearest() {
        Check.about("promise 17");
        Check.due("dearest(): all that are asked", yard(3, 5, 3, 1).dearest(), 7);
        TentYard x = yard(1, 5, 3, 1);
        Check.due("dearest(): 5, and 3 for 1; 1 for 1 is worth nothing", x.dearest(), 3);
        x.thing(0, 1, 0, 1, 4, 0);
        Check.due("dearest(): only one without hiring", x.dearest(), 1);
        x.thing(0, 0, 0, 1, 5, 0);
        Check.due("dearest(): none is worth more than nothing", x.dearest(), 0);
        x.thing(0, 0, 0, 1, 4, 0);
        Check.due("dearest()", x.dearest(), 1);
        x.hire(0);
        Check.due("dearest(): what is hired in for those taken does not count", x.dearest(), 0);
        x.thing(0, 0, 0, 1, 2, 0);
        Check.due("dearest()", x.dearest(), 2);
        x.thing(0, 0, 0, 1, 4, 0);
        x.change(0, 0, 2);
        Check.due("dearest(): those taken changed", x.dearest(), 0);
        x.thing(0, 0, 0, 1, 2, 0);
        x.giveUp(1);
        Check.due("dearest()", x.dearest(), 0);
        x = yard(1, 4, 4);
        x.thing(0, 1, 1, 1, 3, 0);
        Check.due("fits(3)", x.fits(3), 0);
        x.rain(0, true);
        Check.due("dearest(): two days wet, after dry days were counted", x.dearest(), 1);
        x.need(0, 0, 3);
        Check.due("dearest(): one needs more, after wet days were counted", x.dearest(), 2);
        TentYard y = new TentYard();
        Check.due("dearest(): no fields", y.dearest(), 0);
        y.thing(0, 0, 0, 1, 1000, 0);
        for (int f = 0; f < 10; f++) {
            y.field(0, 0, 100000);
            y.need(f, 0, f % 2 == 0 ? 100 : 99);
        }
        Check.due("dearest(): those that lack 99", y.dearest(), 0b1010101010);
    }

    private static void dearestOfLikeOnes() {
        Check.due("dearest(): of 1, 2 and 4 the least", yard(1, 1, 1, 1).dearest(), 1);
        Check.due("dearest(): 2 alone, or 2 with 0 or 1", yard(1, 1, 4, 0).dearest(), 2);
        TentYard x = yard(3, 2, 2, 9);
        x.thing(0, 2, 0, 1, 2, 0);
        Check.due("dearest(): 5 and 6 and 7 are worth 11", x.dearest(), 5);
    }

    private static void hired() {
        Check.about("promise 18");
        TentYard x = new TentYard();
        x.thing(0, 2, 1, 1, 3, 0);
        x.field(0, 1, 0);
        x.field(1, 2, 0);
        x.need(0, 0, 2);
        x.need(1, 0, 2);
        Check.due("hired(0)", x.hired(0), 0);
        Check.due("hired(1)", x.hired(1), 0);
        Check.due("hired(3): 2 on day 1", x.hired(3), 6);
        x.rain(1, true);
        Check.due("hired(3): 2 on days 1 and 2", x.hired(3), 12);
        Check.due("hired(4)", x.hired(4), BAD);
        Check.due("hired(-1)", x.hired(-1), BAD);
        Check.due("hired(MOST)", x.hired(MOST), BAD);
        x.take(0);
        Check.due("hired(2): the set alone", x.hired(2), 0);
        x.hire(1);
        Check.due("hired(1)", x.hired(1), 0);
        x.back(0);
        x.missing(0, 0, 1);
        Check.due("hired(2): 1 on days 1 and 2", x.hired(2), 6);
    }

    private static void hiredAtItsMost() {
        TentYard x = new TentYard();
        for (int t = 0; t < 6; t++) {
            x.thing(t, 0, 5, 100, 1000, 10000);
        }
        x.rain(60, true);
        int last = 0;
        for (int f = 0; f < 10; f++) {
            x.field(0, 60, 100000);
            for (int t = 0; t < 6; t++) {
                x.need(f, t, 500);
            }
            last = x.hire(f);
        }
        Check.due("hire(9): 5000 of 6 things on 66 days for 1000", last, 1980000000);
        Check.due("hired(1023)", x.hired(1023), 1980000000L);
        Check.due("loads(0, 1)", x.loads(0, 1), 3000000);
        Check.due("fewest()", x.fewest(), 1023);
    }

    private static void fewest() {
        Check.about("promise 19");
        TentYard x = yard(3, 1, 2, 3, 4);
        x.field(0, 0, 0);
        Check.due("fewest()", x.fewest(), 0);
        for (int f = 0; f < 5; f++) {
            x.hire(f);
        }
        Check.due("fewest(): the one that offers least", x.fewest(), 1);
        x.change(3, 0, 2);
        Check.due("fewest(): one that needs two, rather than two of one", x.fewest(), 8);
        x.change(3, 0, 3);
        Check.due("fewest()", x.fewest(), 8);
        x.change(0, 0, 2);
        Check.due("fewest(): two", x.fewest(), 9);
        x.back(0);
        Check.due("fewest()", x.fewest(), 8);
        x.giveUp(3);
        Check.due("fewest()", x.fewest(), 0);
        x.field(0, 0, 5);
        x.need(5, 0, 500);
        Check.due("fewest(): one that is asked does not count", x.fewest(), 0);
        x.thing(0, 0, 0, 1, 0, 0);
        Check.due("fewest(): field 4 needs nothing", x.fewest(), 6);
    }

    private static void fewestOfLikeOnes() {
        TentYard x = yard(2, 7, 5, 5);
        x.hire(0);
        x.hire(1);
        x.hire(2);
        Check.due("fewest(): of 2 and 4 the least number", x.fewest(), 2);
        x.change(1, 0, 2);
        x.change(2, 0, 2);
        Check.due("fewest(): 5 and 5 rather than 7 and 5", x.fewest(), 6);
        x.change(0, 0, 2);
        Check.due("fewest()", x.fewest(), 6);
        TentYard y = yard(2, 5, 3, 4, 2);
        for (int f = 0; f < 4; f++) {
            y.hire(f);
        }
        Check.due("fewest(): 3 and 2", y.fewest(), 10);
        y = yard(2, 2, 3, 3, 2);
        for (int f = 0; f < 4; f++) {
            y.hire(f);
        }
        Check.due("fewest(): 2 and 2, though 3 is less as a number", y.fewest(), 9);
        y = yard(1, 0, 9);
        y.hire(0);
        y.hire(1);
        y.change(0, 0, 0);
        y.change(1, 0, 2);
        Check.due("fewest(): giving up 0 would not help", y.fewest(), 2);
    }

    private static void bays() {
        Check.about("promise 20");
        TentYard x = new TentYard();
        Check.due("bays(1, 60)", x.bays(1, 60), 1);
        Check.due("bays(5000, 4)", x.bays(5000, 4), 1250);
        Check.due("bays(60, 60)", x.bays(60, 60), 1);
        Check.due("bays(61, 60)", x.bays(61, 60), 2);
        Check.due("bays(4999, 7)", x.bays(4999, 7), 715);
        Check.due("bays(0, 4)", x.bays(0, 4), BAD);
        Check.due("bays(5001, 4)", x.bays(5001, 4), BAD);
        Check.due("bays(1, 3)", x.bays(1, 3), BAD);
        Check.due("bays(1, 61)", x.bays(1, 61), BAD);
        Check.due("bays(1, 0)", x.bays(1, 0), BAD);
        Check.due("bays(LEAST, MOST)", x.bays(LEAST, MOST), BAD);
    }

    private static void law() {
        Check.about("promise 21");
        TentYard x = new TentYard();
        Check.due("law(0, 1)", x.law(0, 1), BAD);
        Check.due("law(5001, 1)", x.law(5001, 1), BAD);
        Check.due("law(1, 0)", x.law(1, 0), BAD);
        Check.due("law(1, 201)", x.law(1, 201), BAD);
        Check.due("law(1, 1)", x.law(1, 1), 1);
        Check.due("law(1, 2): from is not above", x.law(1, 2), NO);
        Check.due("law(2, 1): doors are not above", x.law(2, 1), NO);
        Check.due("law(2, 2)", x.law(2, 2), 2);
        Check.due("law(3, 3)", x.law(3, 3), 3);
        Check.due("law(2, 9)", x.law(2, 9), NO);
        Check.due("law(9, 2)", x.law(9, 2), NO);
        Check.due("law(4, 4)", x.law(4, 4), 4);
        Check.due("law(5, 5)", x.law(5, 5), 5);
        Check.due("law(4999, 199)", x.law(4999, 199), 6);
        Check.due("law(5000, 200)", x.law(5000, 200), FULL);
        Check.due("law(4999, 200): no before full", x.law(4999, 200), NO);
        Check.due("law(5000, 201): bad before full", x.law(5000, 201), BAD);
        Check.due("count(2)", x.count(2), 6);
        x.unlaw();
        Check.due("law(5000, 200)", x.law(5000, 200), 1);
    }

    private static void unlaw() {
        Check.about("promise 22");
        TentYard x = new TentYard();
        Check.due("unlaw()", x.unlaw(), 0);
        x.law(10, 20);
        x.law(20, 30);
        Check.due("unlaw()", x.unlaw(), 2);
        Check.due("unlaw() again", x.unlaw(), 0);
        Check.due("count(2)", x.count(2), 0);
        Check.due("doors(5000)", x.doors(5000), 1);
        Check.due("law(1, 1): those that went bind no more", x.law(1, 1), 1);
        Check.due("doors(5000)", x.doors(5000), 1);
    }

    private static void doors() {
        Check.about("promise 23");
        TentYard x = new TentYard();
        Check.due("doors(1)", x.doors(1), 1);
        x.law(50, 2);
        x.law(100, 5);
        x.law(5000, 200);
        Check.due("doors(1)", x.doors(1), 1);
        Check.due("doors(49)", x.doors(49), 1);
        Check.due("doors(50)", x.doors(50), 2);
        Check.due("doors(99)", x.doors(99), 2);
        Check.due("doors(100)", x.doors(100), 5);
        Check.due("doors(4999)", x.doors(4999), 5);
        Check.due("doors(5000)", x.doors(5000), 200);
        Check.due("doors(0)", x.doors(0), BAD);
        Check.due("doors(5001)", x.doors(5001), BAD);
        Check.due("doors(LEAST)", x.doors(LEAST), BAD);
    }

    private static void keeps() {
        Check.about("promise 24");
        TentYard x = new TentYard();
        Check.due("keeps(5000, 1)", x.keeps(5000, 1), 1);
        Check.due("keeps(1, 1)", x.keeps(1, 1), 1);
        x.law(10, 4);
        x.law(20, 5);
        x.law(30, 200);
        Check.due("keeps(19, 1): 4 doors", x.keeps(19, 1), 1);
        Check.due("keeps(20, 1)", x.keeps(20, 1), 0);
        Check.due("keeps(20, 2)", x.keeps(20, 2), 1);
        Check.due("keeps(30, 98)", x.keeps(30, 98), 0);
        Check.due("keeps(30, 99)", x.keeps(30, 99), 1);
        Check.due("keeps(5000, 2000)", x.keeps(5000, 2000), 1);
        Check.due("keeps(0, 1)", x.keeps(0, 1), BAD);
        Check.due("keeps(5001, 1)", x.keeps(5001, 1), BAD);
        Check.due("keeps(1, 0)", x.keeps(1, 0), BAD);
        Check.due("keeps(1, 2001)", x.keeps(1, 2001), BAD);
        Check.due("keeps(1, MOST)", x.keeps(1, MOST), BAD);
    }

    private static void soil() {
        Check.about("promise 25");
        TentYard x = new TentYard();
        Check.due("soil(-1, 1)", x.soil(-1, 1), BAD);
        Check.due("soil(4, 1)", x.soil(4, 1), BAD);
        Check.due("soil(0, 0)", x.soil(0, 0), BAD);
        Check.due("soil(0, 1001)", x.soil(0, 1001), BAD);
        Check.due("soil(0, 1)", x.soil(0, 1), 100);
        Check.due("soil(0, 1000)", x.soil(0, 1000), 1);
        Check.due("soil(0, 5)", x.soil(0, 5), 1000);
        Check.due("soil(3, 7)", x.soil(3, 7), 100);
        Check.due("soil(0, 6)", x.soil(0, 6), 5);
    }

    private static void pitch() {
        Check.about("promise 26");
        TentYard x = new TentYard();
        Check.due("pitch(0, 0, 0, 0): no field", x.pitch(0, 0, 0, 0), BAD);
        x.field(0, 0, 0);
        Check.due("pitch(0, 3, 99, 999)", x.pitch(0, 3, 99, 999), 1);
        Check.due("pitch(-1, 0, 0, 0)", x.pitch(-1, 0, 0, 0), BAD);
        Check.due("pitch(1, 0, 0, 0)", x.pitch(1, 0, 0, 0), BAD);
        Check.due("pitch(0, -1, 0, 0)", x.pitch(0, -1, 0, 0), BAD);
        Check.due("pitch(0, 4, 0, 0)", x.pitch(0, 4, 0, 0), BAD);
        Check.due("pitch(0, 0, -1, 0)", x.pitch(0, 0, -1, 0), BAD);
        Check.due("pitch(0, 0, 100, 0)", x.pitch(0, 0, 100, 0), BAD);
        Check.due("pitch(0, 0, 0, -1)", x.pitch(0, 0, 0, -1), BAD);
        Check.due("pitch(0, 0, 0, 1000)", x.pitch(0, 0, 0, 1000), BAD);
        Check.due("about(0, 4)", x.about(0, 4), 3);
        Check.due("about(0, 5)", x.about(0, 5), 99);
        Check.due("about(0, 6)", x.about(0, 6), 999);
        Check.due("pitch(0, 0, 0, 0)", x.pitch(0, 0, 0, 0), 1);
        Check.due("about(0, 5)", x.about(0, 5), 0);
        Check.due("about(0, 6)", x.about(0, 6), 0);
        x.giveUp(0);
        Check.due("pitch(0, 1, 2, 3): however it stands", x.pitch(0, 1, 2, 3), 1);
        Check.due("about(0, 4)", x.about(0, 4), 1);
        Check.due("about(0, 5)", x.about(0, 5), 2);
        Check.due("about(0, 6)", x.about(0, 6), 3);
    }

    private static void bears() {
        Check.about("promise 27");
        TentYard x = new TentYard();
        Check.due("bears(0): no field", x.bears(0), BAD);
        x.field(0, 0, 0);
        Check.due("bears(-1)", x.bears(-1), BAD);
        Check.due("bears(1)", x.bears(1), BAD);
        Check.due("bears(0): no bays", x.bears(0), 60);
        x.pitch(0, 2, 1, 0);
        Check.due("bears(0): no stakes", x.bears(0), 0);
        x.soil(2, 1);
        x.pitch(0, 2, 1, 899);
        Check.due("bears(0)", x.bears(0), 29);
        x.pitch(0, 2, 1, 900);
        Check.due("bears(0): 30 times 30", x.bears(0), 30);
        x.pitch(0, 2, 2, 900);
        Check.due("bears(0): 21 times 21 times 2 is 882", x.bears(0), 21);
        x.soil(2, 1000);
        x.pitch(0, 2, 99, 356);
        Check.due("bears(0): 60 would ask for 356400", x.bears(0), 59);
        x.pitch(0, 2, 99, 357);
        Check.due("bears(0)", x.bears(0), 60);
        x.pitch(0, 2, 1, 999);
        Check.due("bears(0): 60 at most", x.bears(0), 60);
    }

    private static void gust() {
        Check.about("promise 28");
        TentYard x = new TentYard();
        for (int f = 0; f < 5; f++) {
            x.field(10, f == 1 ? 10 : 12, 0);
            x.pitch(f, 0, 1, 4);
        }
        x.pitch(2, 0, 1, 9);
        x.take(0);
        x.take(1);
        x.take(2);
        x.take(4);
        x.back(4);
        Check.due("gust(10, 20)", x.gust(10, 20), 0);
        Check.due("gust(10, 21)", x.gust(10, 21), 3);
        Check.due("gust(11, 21): field 1 is over", x.gust(11, 21), 1);
        Check.due("gust(12, 31)", x.gust(12, 31), 5);
        Check.due("gust(9, 60)", x.gust(9, 60), 0);
        Check.due("gust(13, 60)", x.gust(13, 60), 0);
        x.soil(0, 1);
        Check.due("gust(10, 0)", x.gust(10, 0), 0);
        Check.due("gust(10, 60)", x.gust(10, 60), 7);
        Check.due("gust(0, 60)", x.gust(0, 60), 0);
        Check.due("gust(60, 60)", x.gust(60, 60), 0);
        Check.due("gust(-1, 0)", x.gust(-1, 0), BAD);
        Check.due("gust(61, 0)", x.gust(61, 0), BAD);
        Check.due("gust(10, -1)", x.gust(10, -1), BAD);
        Check.due("gust(10, 61)", x.gust(10, 61), BAD);
        Check.due("gust(10, MOST)", x.gust(10, MOST), BAD);
        Check.due("about(0, 0): a gust changes nothing", x.about(0, 0), 1);
    }

    /** Fields on day 5 alone, taken, with the bays told. */
    private static TentYard crewsYard(int... bays) {
        TentYard x = new TentYard();
        for (int f = 0; f < bays.length; f++) {
            x.field(5, 5, 0);
            x.pitch(f, 0, bays[f], 0);
            x.take(f);
        }
        return x;
    }

    private static void hours() {
        Check.about("promise 29");
        TentYard x = crewsYard(0, 1, 2, 3);
        Check.due("hours(5, 1): 1, 3, 5, 7", x.hours(5, 1), 16);
        Check.due("hours(5, 2)", x.hours(5, 2), 8);
        Check.due("hours(5, 3)", x.hours(5, 3), 7);
        Check.due("hours(4, 3)", x.hours(4, 3), 0);
        Check.due("hours(-1, 1)", x.hours(-1, 1), BAD);
        Check.due("hours(61, 1)", x.hours(61, 1), BAD);
        Check.due("hours(5, 0)", x.hours(5, 0), BAD);
        Check.due("hours(5, 4)", x.hours(5, 4), BAD);
        Check.due("hours(60, 1)", x.hours(60, 1), 0);
        Check.due("hours(5, 2): the first alone, the others together", crewsYard(9, 0, 0).hours(5, 2), 19);
        Check.due("hours(5, 2): one each", crewsYard(9, 9).hours(5, 2), 19);
        x = new TentYard();
        x.field(2, 4, 0);
        x.field(4, 6, 0);
        x.field(2, 6, 0);
        x.pitch(0, 0, 10, 0);
        x.pitch(1, 0, 20, 0);
        x.pitch(2, 0, 40, 0);
        Check.due("hours(4, 1): none is taken", x.hours(4, 1), 0);
        x.take(0);
        x.take(1);
        x.take(2);
        Check.due("hours(2, 1): first days", x.hours(2, 1), 21 + 81);
        Check.due("hours(3, 1): between", x.hours(3, 1), 0);
        Check.due("hours(4, 1): a last and a first day", x.hours(4, 1), 21 + 41);
        Check.due("hours(6, 1): last days", x.hours(6, 1), 41 + 81);
        x.back(2);
        Check.due("hours(6, 1)", x.hours(6, 1), 41);
        x.giveUp(1);
        Check.due("hours(4, 1)", x.hours(4, 1), 21);
        x.field(0, 60, 0);
        x.take(3);
        Check.due("hours(0, 1)", x.hours(0, 1), 1);
        Check.due("hours(60, 1)", x.hours(60, 1), 1);
        Check.due("crew(0, 1, 3)", x.crew(0, 1, 3), 0);
        Check.due("crew(60, 1, 3)", x.crew(60, 1, 3), 0);
        x = crewsYard(99, 99, 99, 99, 99, 99, 99, 99, 99, 99);
        Check.due("hours(5, 1)", x.hours(5, 1), 1990);
        Check.due("hours(5, 2)", x.hours(5, 2), 995);
        Check.due("hours(5, 3)", x.hours(5, 3), 796);
        x = crewsYard(4, 3, 3, 2, 2, 2);
        Check.due("hours(5, 2): 9, 7, 7, 5, 5, 5", x.hours(5, 2), 19);
    }

    private static void crew() {
        Check.about("promise 30");
        TentYard x = crewsYard(1, 2, 9, 3);
        int[] two = {0, 0, 1, 0};
        int[] three = {0, 0, 1, 0};
        for (int f = 0; f < 4; f++) {
            Check.due("crew(5, 1, " + f + ")", x.crew(5, 1, f), 0);
            Check.due("crew(5, 2, " + f + "): 3, 5, 19, 7", x.crew(5, 2, f), two[f]);
            Check.due("crew(5, 3, " + f + ")", x.crew(5, 3, f), three[f]);
        }
        Check.due("crew(4, 1, 0)", x.crew(4, 1, 0), NONE);
        Check.due("crew(-1, 1, 0)", x.crew(-1, 1, 0), BAD);
        Check.due("crew(61, 1, 0)", x.crew(61, 1, 0), BAD);
        Check.due("crew(5, 0, 0)", x.crew(5, 0, 0), BAD);
        Check.due("crew(5, 4, 0)", x.crew(5, 4, 0), BAD);
        Check.due("crew(5, 1, -1)", x.crew(5, 1, -1), BAD);
        Check.due("crew(5, 1, 4)", x.crew(5, 1, 4), BAD);
        x.field(5, 5, 0);
        Check.due("crew(5, 1, 4): asked", x.crew(5, 1, 4), NONE);
        x.back(0);
        Check.due("crew(5, 1, 0): back", x.crew(5, 1, 0), NONE);
        Check.due("crew(5, 2, 1): the least now", x.crew(5, 2, 1), 0);
        Check.due("crew(5, 2, 2)", x.crew(5, 2, 2), 1);
    }

    private static void crewOfLikeOnes() {
        int[][] bays = {{5, 5}, {1, 1, 1, 1}, {4, 3, 3, 2, 2, 2}, {9, 0, 0, 0}, {2, 3, 4, 5, 6, 7}};
        int[][] three = {{0, 1}, {0, 0, 1, 1}, {0, 1, 1, 0, 2, 2}, {0, 1, 1, 1}, {0, 1, 2, 2, 1, 0}};
        for (int i = 0; i < bays.length; i++) {
            TentYard x = crewsYard(bays[i]);
            for (int f = 0; f < bays[i].length; f++) {
                Check.due("row " + i + ", crew(5, 3, " + f + ")", x.crew(5, 3, f), three[i][f]);
            }
        }
    }

    private static void loads() {
        Check.about("promise 31");
        TentYard x = new TentYard();
        x.thing(0, 1000, 0, 7, 0, 0);
        x.thing(5, 1000, 0, 100, 0, 0);
        x.field(1, 3, 0);
        x.field(3, 3, 0);
        x.field(0, 9, 0);
        x.need(0, 0, 3);
        x.need(1, 0, 2);
        x.need(1, 5, 1);
        x.need(2, 0, 500);
        Check.due("loads(3, 1): none is taken", x.loads(3, 1), 0);
        x.take(0);
        x.take(1);
        x.take(2);
        Check.due("loads(1, 1)", x.loads(1, 1), 21);
        Check.due("loads(2, 1): between", x.loads(2, 1), 0);
        Check.due("loads(3, 1): a day that is both counts once", x.loads(3, 1), 135);
        Check.due("loads(3, 135)", x.loads(3, 135), 1);
        Check.due("loads(3, 134)", x.loads(3, 134), 2);
        Check.due("loads(3, 100000)", x.loads(3, 100000), 1);
        Check.due("loads(60, 100000)", x.loads(60, 100000), 0);
        Check.due("loads(-1, 1)", x.loads(-1, 1), BAD);
        Check.due("loads(61, 1)", x.loads(61, 1), BAD);
        Check.due("loads(3, 0)", x.loads(3, 0), BAD);
        Check.due("loads(3, -1)", x.loads(3, -1), BAD);
        Check.due("loads(3, 100001)", x.loads(3, 100001), BAD);
        x.back(1);
        Check.due("loads(3, 1)", x.loads(3, 1), 21);
    }

    private static void count() {
        Check.about("promise 32");
        TentYard x = yard(9, 0, 0, 0);
        x.take(0);
        x.take(2);
        x.law(9, 9);
        x.rain(7, true);
        x.rain(9, true);
        x.rain(11, true);
        x.thing(0, 9, 0, 1, 1, 25);
        int[] due = {3, 2, 1, 3, 0, 0};
        for (int what = 0; what < due.length; what++) {
            Check.due("count(" + what + ")", x.count(what), due[what]);
        }
        x.back(0);
        x.back(2);
        x.missing(0, 0, 1);
        x.missing(2, 0, 1);
        Check.due("count(1)", x.count(1), 0);
        Check.due("count(4)", x.count(4), 2);
        Check.due("count(5)", x.count(5), 50);
        x.mend(0, 1);
        Check.due("count(4)", x.count(4), 1);
        Check.due("count(5)", x.count(5), 50);
        Check.due("count(-1)", x.count(-1), BAD);
        Check.due("count(6)", x.count(6), BAD);
        Check.due("count(LEAST)", x.count(LEAST), BAD);
    }

    private static long folded(long... values) {
        long h = 179;
        for (long v : values) {
            h = 31 * h + v;
        }
        return h;
    }

    private static void digest() {
        Check.about("promise 33");
        TentYard x = new TentYard();
        Check.due("digest()", x.digest(), folded(0, 0, 0, 0, 0, 0, 0, 0, 0, 0, 0, 0, 0, 0, 0, 0, 0, 0, 100, 100, 100, 100));
        x.thing(0, 11, 1, 2, 3, 4);
        x.thing(5, 12, 1, 2, 3, 4);
        x.field(1, 2, 3);
        x.field(4, 5, 6);
        x.need(0, 0, 7);
        x.need(0, 5, 8);
        x.need(1, 1, 9);
        x.take(0);
        x.back(0);
        x.missing(0, 5, 6);
        x.hire(1);
        x.pitch(0, 1, 13, 14);
        x.pitch(1, 2, 15, 16);
        x.rain(9, true);
        x.law(20, 21);
        x.law(22, 23);
        x.soil(1, 31);
        x.soil(3, 33);
        Check.due("digest()", x.digest(), folded(2, 1, 2, 1, 6, 24,
                3, 1, 2, 3, 1, 13, 14, 7, 0, 0, 0, 0, 8,
                1, 4, 5, 6, 2, 15, 16, 0, 9, 0, 0, 0, 0,
                11, 0, 0, 0, 0, 0, 0, 0, 0, 0, 12, 6,
                20, 21, 22, 23,
                100, 31, 100, 33));
        long before = x.digest();
        x.best();
        x.dearest();
        x.fewest();
        x.hired(3);
        x.fits(3);
        x.lack(0, 0);
        x.bears(0);
        x.gust(5, 60);
        x.hours(5, 3);
        x.crew(5, 3, 1);
        x.loads(5, 1);
        x.take(0);
        x.need(1, 1, 2);
        x.missing(0, 5, 1);
        x.law(22, 50);
        Check.due("digest(): what only asks, or is refused, changes nothing", x.digest(), before);
    }
}
