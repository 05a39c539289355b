import java.util.List;

/**
 * What is refused though its numbers are as told: it answers NO or FULL, it changes nothing, and BAD comes before NO,
 * NO before FULL.
 */
public final class RefusalsTest {
    private static final int NONE = -1, BAD = -2, NO = -3, FULL = -4;
    private static final String[] KINDS = {"asked", "taken", "given up", "back"};

    private interface Yard {
        TentYard made();
    }

    private interface Call {
        long on(TentYard x);
    }

    public static void main(String[] args) {
        kinds();
        kindsStayOpen();
        wouldNotFit();
        takenDoNotFit();
        missingTwice();
        moreThanGone();
        lines();
        full();
        badFirst();
        Check.end("RefusalsTest");
    }

    private static void refused(String what, Yard yard, Call call, long due) {
        List<Long> untouched = Yards.look(yard.made());
        TentYard x = yard.made();
        Check.due(what, call.on(x), due);
        Check.holds(what + " changes nothing", Yards.look(x).equals(untouched));
    }

    /** Where the document names how a field must stand: of fields 0 to 3 of the mixed yard each stands in its own way. */
    private static void kinds() {
        Yard mixed = Yards::mixed;
        for (int kind = 0; kind < 4; kind++) {
            int f = kind;
            String of = "(" + f + " ..): " + KINDS[kind];
            Check.about("how a field stands");
            Check.due("about(" + f + ", 0)", Yards.mixed().about(f, 0), kind);
            if (kind != Yards.ASKED) {
                refused("promise 4, need" + of, mixed, x -> x.need(f, 1, 1), NO);
                refused("promise 6, take" + of, mixed, x -> x.take(f), NO);
                refused("promise 7, hire" + of, mixed, x -> x.hire(f), NO);
            }
            if (kind != Yards.ASKED && kind != Yards.TAKEN) {
                refused("promise 8, giveUp" + of, mixed, x -> x.giveUp(f), NO);
            }
            if (kind != Yards.TAKEN) {
                refused("promise 9, change" + of, mixed, x -> x.change(f, 1, 1), NO);
                refused("promise 10, back" + of, mixed, x -> x.back(f), NO);
                refused("promise 30, crew" + of, mixed, x -> x.crew(5, 3, f), NONE);
            }
            if (kind != Yards.BACK) {
                refused("promise 11, missing" + of, mixed, x -> x.missing(f, 1, 1), NO);
                refused("promise 11, missing none" + of, mixed, x -> x.missing(f, 1, 0), NO);
            }
        }
    }

    /** What does not name how a field must stand is refused to none. */
    private static void kindsStayOpen() {
        Check.about("however a field stands");
        for (int f = 0; f < 4; f++) {
            TentYard x = Yards.mixed();
            Check.due("promise 26, pitch(" + f + ", 3, 1, 4)", x.pitch(f, 3, 1, 4), 1);
            Check.due("promise 13, about(" + f + ", 6)", x.about(f, 6), 4);
            Check.due("promise 27, bears(" + f + ")", x.bears(f), 20);
            Check.due("promise 15, fits(" + (1 << f) + ")", x.fits(1 << f), 1);
            Check.due("promise 18, hired(" + (1 << f) + ")", x.hired(1 << f), 0);
        }
    }

    private static TentYard oneLeft() {
        TentYard x = Yards.mixed();
        x.thing(3, 12, 3, 4, 5, 10);
        x.change(4, 3, 9);
        return x;
    }

    private static void wouldNotFit() {
        Check.about("promise 6");
        Check.due("fits(146): the taken ones 1, 4 and 7", oneLeft().fits(146), 1);
        Check.due("fits(178): and 5", oneLeft().fits(178), 0);
        refused("take(5): it would not fit with all taken", RefusalsTest::oneLeft, x -> x.take(5), NO);
        Check.due("hire(5): taken, whatever it lacks", oneLeft().hire(5) > 0 ? 1 : 0, 1);
    }

    private static TentYard lacking() {
        TentYard x = Yards.mixed();
        x.change(7, 0, 500);
        return x;
    }

    private static void takenDoNotFit() {
        Check.about("promise 16");
        refused("best(): those taken do not fit", RefusalsTest::lacking, TentYard::best, NO);
        Check.about("promise 6");
        refused("take(0): those taken do not fit", RefusalsTest::lacking, x -> x.take(0), NO);
        Check.about("promises 17 and 19");
        Check.due("dearest(): is not refused then", lacking().dearest(), 33);
        Check.due("fewest()", lacking().fewest(), 128);
    }

    private static void missingTwice() {
        Check.about("promise 11");
        Yard mixed = Yards::mixed;
        for (int n = 0; n <= 2; n++) {
            int many = n;
            refused("missing(6, 0, " + n + "): told already", mixed, x -> x.missing(6, 0, many), NO);
        }
        refused("missing(6, 1, 2): told already, the same", mixed, x -> x.missing(6, 1, 2), NO);
        Yard mended = () -> {
            TentYard x = Yards.mixed();
            x.mend(1, 2);
            return x;
        };
        refused("missing(6, 1, 2): told already, and mended", mended, x -> x.missing(6, 1, 2), NO);
        Yard none = () -> {
            TentYard x = Yards.mixed();
            x.missing(3, 4, 0);
            return x;
        };
        refused("missing(3, 4, 1): told already that none is", none, x -> x.missing(3, 4, 1), NO);
        refused("missing(3, 4, 0): told already that none is", none, x -> x.missing(3, 4, 0), NO);
    }

    private static void moreThanGone() {
        Check.about("promise 12");
        Yard mixed = Yards::mixed;
        refused("mend(0, 2): one is gone", mixed, x -> x.mend(0, 2), NO);
        refused("mend(1, 3): two are gone", mixed, x -> x.mend(1, 3), NO);
        refused("mend(2, 1): none is gone", mixed, x -> x.mend(2, 1), NO);
        refused("mend(5, 1000): none is gone", mixed, x -> x.mend(5, 1000), NO);
    }

    private static void lines() {
        Check.about("promise 21");
        Yard mixed = Yards::mixed;
        refused("law(1000, 41): from is the last one's", mixed, x -> x.law(1000, 41), NO);
        refused("law(999, 41): from is below the last one's", mixed, x -> x.law(999, 41), NO);
        refused("law(201, 41): from is above one before alone", mixed, x -> x.law(201, 41), NO);
        refused("law(1001, 40): doors are the last one's", mixed, x -> x.law(1001, 40), NO);
        refused("law(1001, 39): doors are below the last one's", mixed, x -> x.law(1001, 39), NO);
        refused("law(1000, 40): both are the last one's", mixed, x -> x.law(1000, 40), NO);
        refused("law(1, 1): both are below", mixed, x -> x.law(1, 1), NO);
        Check.due("law(1001, 41): both are above", Yards.mixed().law(1001, 41), 4);
        TentYard top = new TentYard();
        Check.due("law(5000, 200)", top.law(5000, 200), 1);
        Check.due("law(5000, 200): none is above it", top.law(5000, 200), NO);
        Check.due("count(2)", top.count(2), 1);
    }

    private static void full() {
        Yard full = Yards::full;
        Check.about("promise 3");
        Check.due("count(0)", Yards.full().count(0), 10);
        refused("field(0, 60, 1): ten are there", full, x -> x.field(0, 60, 1), FULL);
        refused("field(60, 60, 0): ten are there", full, x -> x.field(60, 60, 0), FULL);
        Yard over = () -> {
            TentYard x = Yards.full();
            for (int f = 0; f < 10; f++) {
                x.giveUp(f);
                x.back(f);
            }
            return x;
        };
        refused("field(0, 0, 0): ten are there, though all are over", over, x -> x.field(0, 0, 0), FULL);
        Check.about("promise 21");
        Check.due("count(2)", Yards.full().count(2), 6);
        refused("law(4001, 71): six are there", full, x -> x.law(4001, 71), FULL);
        refused("law(5000, 200): six are there", full, x -> x.law(5000, 200), FULL);
        refused("law(4000, 71): NO before FULL", full, x -> x.law(4000, 71), NO);
        refused("law(4001, 70): NO before FULL", full, x -> x.law(4001, 70), NO);
    }

    private static void badFirst() {
        Check.about("BAD before NO");
        Yard mixed = Yards::mixed;
        for (int kind = 1; kind < 4; kind++) {
            int f = kind;
            String of = "(" + f + ", 1, ..): " + KINDS[kind];
            refused("promise 4, need 501" + of, mixed, x -> x.need(f, 1, 501), BAD);
            refused("promise 4, need of thing 6" + of, mixed, x -> x.need(f, 6, 1), BAD);
            refused("promise 9, change to -1" + of, mixed, x -> x.change(f, 1, -1), BAD);
            refused("promise 9, change of thing -1" + of, mixed, x -> x.change(f, -1, 1), BAD);
        }
        for (int f = 0; f < 4; f++) {
            int field = f, most = 2 + (f + 1) % 4;
            refused("promise 11, missing more than needed: " + KINDS[f], mixed, x -> x.missing(field, 1, most + 1), BAD);
            refused("promise 11, missing -1: " + KINDS[f], mixed, x -> x.missing(field, 1, -1), BAD);
        }
        refused("promise 11, missing(6, 1, 6): told already", mixed, x -> x.missing(6, 1, 6), BAD);
        refused("promise 12, mend(0, 1001): one is gone", mixed, x -> x.mend(0, 1001), BAD);
        refused("promise 21, law(1000, 201)", mixed, x -> x.law(1000, 201), BAD);
        refused("promise 21, law(0, 40)", mixed, x -> x.law(0, 40), BAD);
        Check.about("BAD before FULL");
        Yard full = Yards::full;
        refused("promise 3, field(1, 0, 0)", full, x -> x.field(1, 0, 0), BAD);
        refused("promise 3, field(0, 61, 0)", full, x -> x.field(0, 61, 0), BAD);
        refused("promise 3, field(0, 0, 100001)", full, x -> x.field(0, 0, 100001), BAD);
        refused("promise 21, law(5001, 71)", full, x -> x.law(5001, 71), BAD);
        refused("promise 21, law(5000, 201)", full, x -> x.law(5000, 201), BAD);
    }
}
