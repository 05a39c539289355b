import java.math.BigInteger;
import java.util.ArrayList;
import java.util.List;

/** Each sentence of the document that names a boundary, in the order of the page: a test of its own, named after it. */
public final class EdgesTest {
    private static final int NONE = -1, BAD = -2, NO = -3, FULL = -4;

    public static void main(String[] args) {
        anObjectIsUsedForAtMost512Calls();
        thingsAreAllZeroAtFirstWeightOne();
        fieldsComeFromZeroToNine();
        firstIsNoMoreThanLast();
        needsAreZeroAtFirst();
        rainIsNoneAtFirst();
        aFieldUsesOnItsDays();
        aThingDriesOnTheDaysBehind();
        rainOnOtherDaysWetsNothing();
        aLackIsWhatIsAboveWhatIsThere();
        whatIsThereCountsAsZeroBelowIt();
        aSetFitsOnAllDays();
        theBestAtItsEnds();
        noneFitsIfThoseTakenDoNot();
        hiredInOfAllThingsOnAllDays();
        aWorthOfNothingIsNotTaken();
        hiredInForTheTakenIsLeftOut();
        fieldsThatGoLeaveNoLessThanNothing();
        givenUpLateAtItsEnds();
        layouts();
        turns();
        bills();
        Check.end("EdgesTest");
    }

    private static void layouts() {
        baysAreCutUp();
        sixLinesAtMost();
        doorsFromALineOn();
        aTentKeepsTheLawIfDoorsAreNoMore();
        soilsHoldAHundredAtFirst();
        aFieldBearsUpToTheSame();
        aGustStrikesFromOneMore();
        aGustIsOfAFieldsDays();
        zeroBaysAndZeroStakes();
        hoursOfNoneAndOfOne();
        crewsAtTheirEnds();
        firstAndLastDayAlone();
        bothDaysCountOnce();
        loadsAreCutUp();
    }

    private static void turns() {
        takenUpToWhatIsThere();
        hiredWhateverItLacks();
        givenUpFromTwoKinds();
        backFromOneKind();
        needTellsWhatItWas();
        rainToldTwice();
        changeTellsWhetherAllFit();
    }

    private static void bills() {
        missingFromZeroToWhatItNeeded();
        missingOfWhatWasNotNeeded();
        billsAtTheirMost();
        mendedDownToZero();
        setsOfNoFields();
        unlawOfNone();
        countsAtTheirMost();
        theDigestWrapsAround();
    }

    /** A yard with one thing 0 of which some are owned, dry at once, and as many fields as told on day 0, needing one. */
    private static TentYard crowd(int own, int fields) {
        TentYard x = new TentYard();
        x.thing(0, own, 0, 1, 1, 1);
        for (int f = 0; f < fields; f++) {
            x.field(0, 0, 10);
            x.need(f, 0, 1);
        }
        return x;
    }

    /** A taken field on the days told that needs 7 of thing 0, of which none is owned. */
    private static TentYard single(int first, int last, int drying) {
        TentYard x = new TentYard();
        x.thing(0, 0, drying, 1, 1, 1);
        x.field(first, last, 10);
        x.need(0, 0, 7);
        x.hire(0);
        return x;
    }

    private static void anObjectIsUsedForAtMost512Calls() {
        Check.about("an object is used for at most 512 calls");
        TentYard x = new TentYard();
        for (int call = 1; call < 512; call++) {
            Check.due("call " + call, x.rain(call % 61, call % 2 == 1), 1);
        }
        // The last 61 calls, 451 to 511, told of each day once, 31 of them with rain.
        Check.due("call 512", x.count(3), 31);
        x = Yards.full();
        TentYard asked = Yards.full();
        for (int call = 0; call < 300; call++) {
            asked.best();
        }
        Check.holds("many questions change nothing", Yards.look(x).equals(Yards.look(asked)));
    }

    private static void thingsAreAllZeroAtFirstWeightOne() {
        Check.about("terms 1: all 0 at first, WEIGHT 1");
        for (int t = 0; t < 6; t++) {
            TentYard x = new TentYard();
            x.field(60, 60, 0);
            x.need(0, t, 1);
            x.rain(60, true);
            Check.due("OWN 0: fits(1)", x.fits(1), 0);
            Check.due("HIRE 0: hire(0)", x.hire(0), 0);
            Check.due("OWN 0: lack(" + t + ", 60)", x.lack(t, 60), 1);
            Check.due("DRYING 0: lack(" + t + ", 61)", x.lack(t, 61), 0);
            Check.due("WEIGHT 1: loads(60, 1)", x.loads(60, 1), 1);
            Check.due("none GONE: mend(" + t + ", 0)", x.mend(t, 0), 0);
            Check.due("none GONE: mend(" + t + ", 1)", x.mend(t, 1), NO);
            x.back(0);
            Check.due("COST 0: missing(0, " + t + ", 1)", x.missing(0, t, 1), 0);
            Check.due("mend(" + t + ", 1)", x.mend(t, 1), 0);
        }
    }

    private static void fieldsComeFromZeroToNine() {
        Check.about("terms 1: FIELDS 0 .. 9, as they come");
        TentYard x = new TentYard();
        for (int f = 0; f < 10; f++) {
            Check.due("about(" + f + ", 0): not yet there", x.about(f, 0), BAD);
            Check.due("field(.., 61, 1): refused", x.field(f, 61, 1), BAD);
            Check.due("field(" + f + ", 60, " + f + ")", x.field(f, 60, f), f);
            Check.due("about(" + f + ", 1)", x.about(f, 1), f);
            Check.due("count(0)", x.count(0), f + 1);
        }
        Check.due("an eleventh", x.field(10, 60, 10), FULL);
        Check.due("about(10, 0)", x.about(10, 0), BAD);
        Check.due("about(9, 1)", x.about(9, 1), 9);
    }

    private static void firstIsNoMoreThanLast() {
        Check.about("terms 1: days first .. last, 0 .. 60, first no more than last");
        for (int first = -1; first <= 61; first++) {
            for (int last = first - 1; last <= first + 1; last++) {
                boolean may = first >= 0 && first <= last && last <= 60;
                TentYard x = new TentYard();
                Check.due("field(" + first + ", " + last + ", 0)", x.field(first, last, 0), may ? 0 : BAD);
                Check.due("about(0, 2)", x.about(0, 2), may ? last : BAD);
            }
        }
    }

    private static void needsAreZeroAtFirst() {
        Check.about("terms 1: NEEDS, 0 at first");
        TentYard x = new TentYard();
        x.field(0, 60, 0);
        Check.due("fits(1): it needs nothing, and nothing is owned", x.fits(1), 1);
        for (int t = 0; t < 6; t++) {
            Check.due("need(0, " + t + ", 500)", x.need(0, t, 500), 0);
            Check.due("need(0, " + t + ", 0)", x.need(0, t, 0), 500);
        }
        Check.due("take(0)", x.take(0), 1);
    }

    private static void rainIsNoneAtFirst() {
        Check.about("terms 1: RAIN, none at first");
        for (int last = 0; last <= 60; last++) {
            TentYard x = single(0, last, 5);
            Check.due("lack(0, " + (last + 1) + ")", x.lack(0, last + 1), 0);
            Check.due("hired(1)", x.hired(1), 7L * (last + 1));
        }
    }

    private static void aFieldUsesOnItsDays() {
        Check.about("terms 1: on a day that is one of its days");
        int[][] days = {{0, 0}, {0, 60}, {60, 60}, {1, 59}, {17, 17}, {17, 18}};
        for (int[] d : days) {
            TentYard x = single(d[0], d[1], 0);
            x.rain(d[1], true);
            for (int day = 0; day <= 65; day++) {
                Check.due("lack(0, " + day + ")", x.lack(0, day), day < d[0] || day > d[1] ? 0 : 7);
            }
        }
    }

    private static void aThingDriesOnTheDaysBehind() {
        Check.about("terms 1: on the k days behind its last one");
        for (int k = 0; k <= 5; k++) {
            for (int last = 0; last <= 60; last += 12) {
                TentYard x = single(0, last, k);
                x.rain(last, true);
                for (int day = 0; day <= 65; day++) {
                    Check.due("DRYING " + k + ", last " + last + ", day " + day, x.lack(0, day), day > last + k ? 0 : 7);
                }
                Check.due("hired(1)", x.hired(1), 7L * (last + 1 + k));
                Check.due("lack(0, 66)", x.lack(0, 66), BAD);
            }
        }
    }

    private static void rainOnOtherDaysWetsNothing() {
        Check.about("terms 1: if there is RAIN on its last day");
        TentYard x = single(20, 22, 5);
        for (int day = 0; day <= 60; day++) {
            x.rain(day, day != 22);
        }
        Check.due("count(3)", x.count(3), 60);
        Check.due("lack(0, 23): rain on all other days", x.lack(0, 23), 0);
        x.rain(22, true);
        Check.due("lack(0, 27)", x.lack(0, 27), 7);
        Check.due("lack(0, 28)", x.lack(0, 28), 0);
        x.rain(22, false);
        Check.due("lack(0, 23)", x.lack(0, 23), 0);
    }

    private static void aLackIsWhatIsAboveWhatIsThere() {
        Check.about("terms 1: THE LACK, 0 if they are not above it");
        for (int own = 0; own <= 14; own++) {
            TentYard x = single(3, 3, 0);
            x.thing(0, own, 0, 1, 1, 1);
            Check.due("OWN " + own + ", NEEDS 7: lack(0, 3)", x.lack(0, 3), own < 7 ? 7 - own : 0);
            Check.due("OWN " + own + ", NEEDS 7: fits(1)", x.fits(1), own < 7 ? 0 : 1);
            Check.due("OWN " + own + ", NEEDS 7: fewest()", x.fewest(), own < 7 ? 1 : 0);
        }
        TentYard x = single(3, 3, 0);
        x.change(0, 0, 500);
        x.field(3, 3, 0);
        x.need(1, 0, 500);
        x.hire(1);
        x.thing(0, 1000, 0, 1, 1, 1);
        Check.due("OWN 1000, NEEDS 1000: lack(0, 3)", x.lack(0, 3), 0);
        x.thing(0, 999, 0, 1, 1, 1);
        Check.due("OWN 999, NEEDS 1000: lack(0, 3)", x.lack(0, 3), 1);
    }

    private static void whatIsThereCountsAsZeroBelowIt() {
        Check.about("terms 1: OWN less GONE, which counts as 0 if it is below 0");
        for (int gone = 0; gone <= 7; gone++) {
            TentYard x = single(3, 3, 0);
            x.thing(0, 5, 0, 1, 1, 1);
            x.back(0);
            x.missing(0, 0, gone);
            x.field(9, 9, 0);
            x.need(1, 0, 6);
            Check.due("GONE " + gone + " of 5: hire(1)", x.hire(1), gone < 5 ? 1 + gone : 6);
            Check.due("GONE " + gone + " of 5: lack(0, 9)", x.lack(0, 9), gone < 5 ? 1 + gone : 6);
            x.change(1, 0, 0);
            Check.due("lack(0, 9): it needs nothing", x.lack(0, 9), 0);
            Check.due("fits(2): it needs nothing", x.fits(2), 1);
        }
        TentYard x = single(3, 3, 0);
        x.back(0);
        x.missing(0, 0, 7);
        x.thing(0, 7, 0, 1, 1, 1);
        Check.due("GONE 7 of 7: lack(0, 3)", x.lack(0, 3), 0);
        x.thing(0, 8, 0, 1, 1, 1);
        Check.due("GONE 7 of 8: hired(1)", x.hired(1), 6);
        x.mend(0, 7);
        Check.due("none GONE: fits(1)", x.fits(1), 1);
    }

    private static void aSetFitsOnAllDays() {
        Check.about("terms 1: A SET FITS, if there is no LACK of any THING on days 0 .. 65");
        for (int t = 0; t < 6; t++) {
            for (int day = 0; day <= 60; day++) {
                TentYard x = new TentYard();
                x.thing(t, 1, 0, 1, 1, 1);
                x.field(0, day, 0);
                x.field(day, 60, 0);
                x.need(0, t, 1);
                x.need(1, t, 1);
                Check.due("fits(1)", x.fits(1), 1);
                Check.due("fits(2)", x.fits(2), 1);
                Check.due("thing " + t + ", day " + day + ": fits(3)", x.fits(3), 0);
                Check.due("thing " + t + ", day " + day + ": hired(3)", x.hired(3), 1);
            }
        }
        Check.due("fits(0): the empty set", Yards.full().fits(0), 1);
    }

    private static void theBestAtItsEnds() {
        Check.about("terms 2: THE BEST");
        Check.due("no fields", new TentYard().best(), 0);
        Check.due("one that does not fit", crowd(0, 1).best(), 0);
        Check.due("one that does", crowd(1, 1).best(), 1);
        Check.due("ten, of which none fits", crowd(0, 10).best(), 0);
        Check.due("ten, of which one fits: the least as a number", crowd(1, 10).best(), 1);
        Check.due("ten, of which nine fit: the least as a number", crowd(9, 10).best(), 511);
        Check.due("ten, that all fit", crowd(10, 10).best(), 1023);
        TentYard x = crowd(10, 10);
        for (int f = 0; f < 10; f++) {
            x.take(f);
        }
        Check.due("none is asked", x.best(), 0);
        x = new TentYard();
        x.field(0, 0, 0);
        Check.due("a PRICE of 0 adds nothing", x.best(), 0);
        x.field(0, 0, 1);
        Check.due("a PRICE of 1 does", x.best(), 2);
        x = crowd(1, 0);
        x.field(0, 0, 100000);
        x.field(0, 0, 99999);
        x.need(0, 0, 2);
        x.need(1, 0, 1);
        Check.due("the dearer one lacks 1", x.best(), 2);
        x.thing(0, 2, 0, 1, 1, 1);
        Check.due("the dearer one lacks none", x.best(), 1);
    }

    private static void noneFitsIfThoseTakenDoNot() {
        Check.about("terms 2: none FITS, if those TAKEN do not");
        TentYard x = crowd(1, 2);
        x.hire(0);
        Check.due("those TAKEN are no more than is there", x.best(), 0);
        x.hire(1);
        Check.due("one more, none asked", x.best(), NO);
        x.field(60, 60, 5);
        Check.due("one more, one asked that needs nothing", x.best(), NO);
        x.giveUp(0);
        Check.due("they fit again", x.best(), 4);
    }

    private static void hiredInOfAllThingsOnAllDays() {
        Check.about("terms 2: HIRED IN, of all THINGS on all days");
        for (int t = 0; t < 6; t++) {
            TentYard x = new TentYard();
            x.thing(t, 499, 5, 1, 1000, 1);
            x.field(60, 60, 0);
            x.need(0, t, 499);
            x.rain(60, true);
            Check.due("hired(1): not above", x.hired(1), 0);
            x.need(0, t, 500);
            Check.due("hired(1): one above, on days 60 .. 65", x.hired(1), 6000);
            Check.due("hired(0)", x.hired(0), 0);
            Check.due("hire(0)", x.hire(0), 6000);
        }
        TentYard y = crowd(1, 10);
        Check.due("hired(1)", y.hired(1), 0);
        Check.due("hired(3)", y.hired(3), 1);
        Check.due("hired(1023)", y.hired(1023), 9);
    }

    private static void aWorthOfNothingIsNotTaken() {
        Check.about("terms 2: THE DEAREST (none: 0)");
        Check.due("no fields", new TentYard().dearest(), 0);
        TentYard x = crowd(0, 2);
        x.thing(0, 0, 0, 1, 9, 1);
        Check.due("PRICE 10, hired in for 9", x.dearest(), 3);
        x.thing(0, 0, 0, 1, 10, 1);
        Check.due("PRICE 10, hired in for 10", x.dearest(), 0);
        x.thing(0, 0, 0, 1, 11, 1);
        Check.due("PRICE 10, hired in for 11", x.dearest(), 0);
        x.thing(0, 1, 0, 1, 10, 1);
        Check.due("one without hiring, the least as a number", x.dearest(), 1);
        x.take(0);
        Check.due("one, for which is hired in for 10", x.dearest(), 0);
        x = new TentYard();
        x.field(0, 0, 0);
        Check.due("PRICE 0, nothing hired in", x.dearest(), 0);
        x = crowd(10, 10);
        Check.due("all ten", x.dearest(), 1023);
        x.thing(0, 0, 0, 1, 1000, 1);
        Check.due("none of the ten", x.dearest(), 0);
    }

    private static void hiredInForTheTakenIsLeftOut() {
        Check.about("terms 2: less what HIRED IN is more than for the TAKEN alone");
        TentYard x = crowd(0, 3);
        x.thing(0, 0, 0, 1, 1000, 1);
        Check.due("hire(0)", x.hire(0), 1000);
        x.field(1, 1, 1);
        Check.due("a field that lacks nothing, though the taken one does", x.dearest(), 8);
        x.need(3, 0, 1);
        Check.due("and one that does", x.dearest(), 0);
        TentYard y = crowd(5, 2);
        y.change(0, 0, 3);
        y.need(0, 0, 3);
        y.need(1, 0, 4);
        y.take(0);
        y.thing(0, 5, 0, 1, 4, 1);
        Check.due("4 to 3 of 5: 2 for 4 each of 10", y.dearest(), 2);
        y.thing(0, 5, 0, 1, 5, 1);
        Check.due("4 to 3 of 5: 2 for 5 each of 10", y.dearest(), 0);
    }

    /** Sets are tried one after the other: what falls below OWN when fields go must not pay for those that come. */
    private static void fieldsThatGoLeaveNoLessThanNothing() {
        Check.about("terms 2: HIRED IN is never below 0");
        TentYard x = new TentYard();
        x.thing(0, 5, 0, 1, 10, 1);
        int[] needs = {3, 4, 6};
        int[] prices = {1, 1, 5};
        for (int f = 0; f < 3; f++) {
            x.field(0, 0, prices[f]);
            x.need(f, 0, needs[f]);
        }
        Check.due("5 is less than what is hired in for 1 above OWN", x.dearest(), 1);
        x.giveUp(0);
        Check.due("dearest()", x.dearest(), 2);
        x.giveUp(1);
        Check.due("dearest()", x.dearest(), 0);
    }

    private static void givenUpLateAtItsEnds() {
        Check.about("terms 2: GIVEN UP LATE (0: all FIT)");
        Check.due("no fields", new TentYard().fewest(), 0);
        Check.due("none taken, none would fit", crowd(0, 10).fewest(), 0);
        TentYard x = crowd(10, 10);
        for (int f = 0; f < 10; f++) {
            x.take(f);
        }
        for (int own = 10; own >= 0; own--) {
            x.thing(0, own, 0, 1, 1, 1);
            Check.due("OWN " + own + " for ten: the least as a number", x.fewest(), (1 << 10 - own) - 1);
        }
        TentYard y = new TentYard();
        y.thing(0, 4, 0, 1, 1, 1);
        int[] prices = {100000, 1, 2, 3};
        for (int f = 0; f < 4; f++) {
            y.field(0, 0, prices[f]);
            y.need(f, 0, f == 0 ? 3 : 1);
            y.hire(f);
        }
        Check.due("two of the least PRICES or one of the greatest: one", y.fewest(), 1);
        y.change(0, 0, 2);
        Check.due("one is enough: the least PRICE", y.fewest(), 2);
    }

    private static void baysAreCutUp() {
        Check.about("terms 3: bays, g by s, cut up");
        TentYard x = new TentYard();
        for (int s = 4; s <= 60; s++) {
            int most = 5000 / s;
            Check.due("bays(1, " + s + ")", x.bays(1, s), 1);
            Check.due("bays(" + s + ", " + s + ")", x.bays(s, s), 1);
            Check.due("bays(" + (s + 1) + ", " + s + ")", x.bays(s + 1, s), 2);
            Check.due("bays(" + (most * s - 1) + ", " + s + ")", x.bays(most * s - 1, s), most);
            Check.due("bays(" + most * s + ", " + s + ")", x.bays(most * s, s), most);
            Check.due("bays(5000, " + s + ")", x.bays(5000, s), most * s == 5000 ? most : most + 1);
        }
    }

    private static void sixLinesAtMost() {
        Check.about("terms 3: LINES, 6 at most, both rising");
        TentYard x = new TentYard();
        for (int i = 1; i <= 6; i++) {
            Check.due("law(" + i + ", " + i + ")", x.law(i, i), i);
            Check.due("law(" + i + ", " + (i + 1) + "): from is not above", x.law(i, i + 1), NO);
            Check.due("law(" + (i + 1) + ", " + i + "): doors are not above", x.law(i + 1, i), NO);
            Check.due("count(2)", x.count(2), i);
        }
        Check.due("law(7, 7)", x.law(7, 7), FULL);
        Check.due("doors(7)", x.doors(7), 6);
        Check.due("unlaw()", x.unlaw(), 6);
        Check.due("law(7, 7)", x.law(7, 7), 1);
    }

    private static void doorsFromALineOn() {
        Check.about("terms 3: doors, that of the last LINE that g comes to; 1 without one");
        TentYard x = new TentYard();
        int[] from = {2, 3, 100, 101, 4999, 5000};
        int[] doors = {1, 9, 50, 77, 199, 200};
        Check.due("doors(5000)", x.doors(5000), 1);
        for (int i = 0; i < 6; i++) {
            x.law(from[i], doors[i]);
            Check.due("doors(" + (from[i] - 1) + ")", x.doors(from[i] - 1), i > 0 ? doors[i - 1] : 1);
            Check.due("doors(" + from[i] + ")", x.doors(from[i]), doors[i]);
            Check.due("doors(5000)", x.doors(5000), doors[i]);
        }
        Check.due("doors(99)", x.doors(99), 9);
        Check.due("doors(102)", x.doors(102), 77);
        Check.due("doors(1)", x.doors(1), 1);
        x.unlaw();
        x.law(1, 5);
        Check.due("doors(1): a LINE from 1 on", x.doors(1), 5);
    }

    private static void aTentKeepsTheLawIfDoorsAreNoMore() {
        Check.about("terms 3: it KEEPS THE LAW if doors are no more than 2 a bay and 2");
        for (int doors = 1; doors <= 200; doors++) {
            TentYard x = new TentYard();
            x.law(2, doors);
            int least = doors <= 4 ? 1 : (doors - 1) / 2;
            Check.due("keeps(2, " + least + "): " + doors + " doors", x.keeps(2, least), 1);
            if (least > 1) {
                Check.due("keeps(2, " + (least - 1) + "): " + doors + " doors", x.keeps(2, least - 1), 0);
            }
            Check.due("keeps(1, 1): below the LINE", x.keeps(1, 1), 1);
            Check.due("keeps(2, 2000)", x.keeps(2, 2000), 1);
        }
        Check.due("keeps(5000, 1): no LINE", new TentYard().keeps(5000, 1), 1);
    }

    private static void soilsHoldAHundredAtFirst() {
        Check.about("terms 3: SOILS HOLD 100 at first");
        for (int s = 0; s <= 3; s++) {
            TentYard x = new TentYard();
            x.field(0, 0, 0);
            x.pitch(0, s, 4, 100);
            Check.due("bears(0): 50 times 50 times 4 is 100 times 100", x.bears(0), 50);
            x.pitch(0, s, 4, 99);
            Check.due("bears(0): one stake less", x.bears(0), 49);
            Check.due("soil(" + s + ", 1)", x.soil(s, 1), 100);
            Check.due("bears(0)", x.bears(0), 4);
            Check.due("soil(" + s + ", 1000)", x.soil(s, 1000), 1);
            Check.due("bears(0)", x.bears(0), 60);
        }
    }

    /** A taken field on days 10 to 12 with one bay, on a soil that holds as told. */
    private static TentYard bearing(int hold, int stakes) {
        TentYard x = new TentYard();
        x.soil(2, hold);
        x.field(10, 12, 0);
        x.pitch(0, 2, 1, stakes);
        x.take(0);
        return x;
    }

    private static void aFieldBearsUpToTheSame() {
        Check.about("terms 3: it BEARS a gust, if v v times its bays is no more");
        for (int v = 1; v <= 60; v++) {
            Check.due("bears(0): " + v + " times " + v + " stakes", bearing(v, v).bears(0), v);
            Check.due("bears(0): one stake less", bearing(v, v - 1).bears(0), v - 1);
        }
        Check.due("bears(0): 61 times 61, but 60 at most", bearing(61, 61).bears(0), 60);
        Check.due("bears(0): 61 times 60 is enough for 60", bearing(61, 60).bears(0), 60);
        Check.due("bears(0): 61 times 59 is not", bearing(61, 59).bears(0), 59);
    }

    private static void aGustStrikesFromOneMore() {
        Check.about("promise 28: which do not BEAR it");
        for (int v = 1; v <= 60; v++) {
            Check.due("gust(11, " + v + "): it just bears it", bearing(v, v).gust(11, v), 0);
            Check.due("gust(11, " + v + "): one stake less", bearing(v, v - 1).gust(11, v), 1);
            Check.due("gust(11, " + (v - 1) + "): one stake less", bearing(v, v - 1).gust(11, v - 1), 0);
        }
    }

    private static void aGustIsOfAFieldsDays() {
        Check.about("promise 28: TAKEN FIELDS that have it among their days");
        for (int day = 0; day <= 60; day++) {
            Check.due("gust(" + day + ", 60)", bearing(1, 0).gust(day, 60), day >= 10 && day <= 12 ? 1 : 0);
        }
        for (int state = 0; state < 4; state++) {
            TentYard x = new TentYard();
            x.field(0, 60, 0);
            x.pitch(0, 0, 1, 0);
            Yards.bring(x, 0, state);
            Check.due("gust(0, 1): state " + state, x.gust(0, 1), state == Yards.TAKEN ? 1 : 0);
            Check.due("gust(60, 1): state " + state, x.gust(60, 1), state == Yards.TAKEN ? 1 : 0);
        }
        TentYard all = new TentYard();
        for (int f = 0; f < 10; f++) {
            all.field(f, 60, 0);
            all.pitch(f, 3, 99, 0);
            all.take(f);
            Check.due("gust(" + f + ", 1)", all.gust(f, 1), (2 << f) - 1);
        }
        Check.due("gust(60, 60): all ten", all.gust(60, 60), 1023);
        Check.due("gust(60, 0)", all.gust(60, 0), 0);
    }

    private static void zeroBaysAndZeroStakes() {
        Check.about("terms 3: bays (0 .. 99), stakes (0 .. 999)");
        int[][] pitches = {{0, 0, 60}, {0, 999, 60}, {1, 0, 0}, {99, 0, 0}, {99, 999, 31}, {99, 1, 1}};
        for (int[] p : pitches) {
            TentYard x = new TentYard();
            x.field(0, 0, 0);
            Check.due("bears(0): not pitched", x.bears(0), 60);
            x.pitch(0, 0, p[0], p[1]);
            Check.due("bears(0): bays " + p[0] + ", stakes " + p[1], x.bears(0), p[2]);
            x.take(0);
            Check.due("gust(0, 60)", x.gust(0, 60), p[2] < 60 ? 1 : 0);
            Check.due("gust(0, " + p[2] + ")", x.gust(0, p[2]), 0);
        }
    }

    private static void hoursOfNoneAndOfOne() {
        Check.about("terms 3: HOURS, bays times 2 and 1");
        for (int n = 1; n <= 3; n++) {
            Check.due("hours(0, " + n + "): no fields", new TentYard().hours(0, n), 0);
            Check.due("hours(4, " + n + "): none that day", Yards.pitched(3).hours(4, n), 0);
            Check.due("hours(5, " + n + "): no bays", Yards.pitched(0).hours(5, n), 1);
            Check.due("hours(5, " + n + "): 99 bays", Yards.pitched(99).hours(5, n), 199);
            Check.due("hours(5, " + n + "): ten fields", Yards.pitched(0, 0, 0, 0, 0, 0, 0, 0, 0, 0).hours(5, n),
                    (10 + n - 1) / n);
        }
    }

    private static void crewsAtTheirEnds() {
        Check.about("terms 3: CREWS 1 .. 3, of like ones the first");
        TentYard one = Yards.pitched(7);
        TentYard two = Yards.pitched(7, 7);
        TentYard three = Yards.pitched(7, 7, 7);
        TentYard four = Yards.pitched(0, 0, 0, 1);
        for (int n = 1; n <= 3; n++) {
            Check.due("one field, crew(5, " + n + ", 0)", one.crew(5, n, 0), 0);
            Check.due("two fields, crew(5, " + n + ", 0)", two.crew(5, n, 0), 0);
            Check.due("two fields, crew(5, " + n + ", 1)", two.crew(5, n, 1), n == 1 ? 0 : 1);
            Check.due("three fields, crew(5, " + n + ", 1)", three.crew(5, n, 1), n == 3 ? 1 : 0);
            Check.due("three fields, crew(5, " + n + ", 2)", three.crew(5, n, 2), n - 1);
            Check.due("1, 1, 1, 3: crew(5, " + n + ", 2)", four.crew(5, n, 2), 0);
            Check.due("1, 1, 1, 3: crew(5, " + n + ", 3)", four.crew(5, n, 3), n == 1 ? 0 : 1);
            Check.due("crew(4, " + n + ", 0): nothing to do", one.crew(4, n, 0), NONE);
            Check.due("crew(5, " + n + ", 1): not there", one.crew(5, n, 1), BAD);
        }
        TentYard ten = Yards.pitched(9, 8, 7, 6, 5, 4, 3, 2, 1, 0);
        int[] sums = new int[3];
        for (int f = 0; f < 10; f++) {
            int crew = ten.crew(5, 3, f);
            Check.holds("crew(5, 3, " + f + ") is one of three", crew >= 0 && crew < 3);
            sums[Math.max(0, crew) % 3] += 2 * (9 - f) + 1;
        }
        Check.due("ten fields, 100 HOURS: hours(5, 3)", ten.hours(5, 3), 34);
        Check.due("the greatest sum of what the crews have", Math.max(sums[0], Math.max(sums[1], sums[2])), 34);
    }

    private static void firstAndLastDayAlone() {
        Check.about("terms 3: FIELDS of a day, those TAKEN that have it as their first or last one");
        TentYard x = new TentYard();
        x.thing(0, 9, 5, 10, 0, 0);
        x.field(0, 60, 0);
        x.need(0, 0, 1);
        x.rain(60, true);
        x.take(0);
        for (int day = 0; day <= 60; day++) {
            boolean of = day == 0 || day == 60;
            Check.due("hours(" + day + ", 1)", x.hours(day, 1), of ? 1 : 0);
            Check.due("crew(" + day + ", 1, 0)", x.crew(day, 1, 0), of ? 0 : NONE);
            Check.due("loads(" + day + ", 10)", x.loads(day, 10), of ? 1 : 0);
        }
        for (int state = 0; state < 4; state++) {
            TentYard y = new TentYard();
            y.field(3, 4, 0);
            y.need(0, 0, 1);
            Yards.bring(y, 0, state);
            int of = state == Yards.TAKEN ? 1 : 0;
            Check.due("hours(3, 2): state " + state, y.hours(3, 2), of);
            Check.due("crew(4, 2, 0): state " + state, y.crew(4, 2, 0), of == 1 ? 0 : NONE);
            Check.due("loads(4, 1): state " + state, y.loads(4, 1), of);
        }
    }

    private static void bothDaysCountOnce() {
        Check.about("terms 3: of one that has it as both, once");
        int[] days = {0, 30, 60};
        for (int day : days) {
            TentYard x = new TentYard();
            x.field(day, day, 0);
            x.pitch(0, 0, 2, 0);
            x.need(0, 3, 7);
            x.hire(0);
            Check.due("loads(" + day + ", 1)", x.loads(day, 1), 7);
            Check.due("hours(" + day + ", 1)", x.hours(day, 1), 5);
        }
    }

    private static void loadsAreCutUp() {
        Check.about("terms 3: LOADS, by a lorry's room, cut up");
        TentYard x = new TentYard();
        for (int room = 1; room <= 100000; room = room * 10) {
            Check.due("loads(0, " + room + "): none", x.loads(0, room), 0);
        }
        for (int t = 0; t < 6; t++) {
            x.thing(t, 1000, 0, 100, 0, 0);
        }
        x.field(0, 0, 0);
        x.need(0, 5, 1);
        x.take(0);
        Check.due("loads(0, 99): 100", x.loads(0, 99), 2);
        Check.due("loads(0, 100): 100", x.loads(0, 100), 1);
        Check.due("loads(0, 101): 100", x.loads(0, 101), 1);
        Check.due("loads(0, 50): 100", x.loads(0, 50), 2);
        Check.due("loads(0, 49): 100", x.loads(0, 49), 3);
        for (int f = 0; f < 10; f++) {
            x.field(0, 0, 0);
            x.hire(f);
            for (int t = 0; t < 6; t++) {
                x.change(f, t, 500);
            }
        }
        Check.due("loads(0, 100000): 3000000", x.loads(0, 100000), 30);
        Check.due("loads(0, 99999): 3000000", x.loads(0, 99999), 31);
        Check.due("loads(0, 1): 3000000", x.loads(0, 1), 3000000);
    }

    private static void takenUpToWhatIsThere() {
        Check.about("promise 6: TAKEN, or would not FIT with all TAKEN");
        for (int own = 0; own <= 3; own++) {
            TentYard x = crowd(own, 4);
            for (int f = 0; f < 4; f++) {
                Check.due("OWN " + own + ": take(" + f + ")", x.take(f), f < own ? 1 : NO);
                Check.due("OWN " + own + ": about(" + f + ", 0)", x.about(f, 0), f < own ? 1 : 0);
            }
            Check.due("OWN " + own + ": count(1)", x.count(1), own);
        }
        TentYard x = single(0, 9, 1);
        x.thing(0, 7, 1, 1, 1, 1);
        x.rain(9, true);
        x.field(10, 10, 0);
        x.field(11, 11, 0);
        x.need(1, 0, 1);
        x.need(2, 0, 7);
        Check.due("take(1): wet ones dry", x.take(1), NO);
        Check.due("take(2): dry again", x.take(2), 1);
        x.rain(9, false);
        Check.due("take(1): no rain", x.take(1), 1);
    }

    private static void hiredWhateverItLacks() {
        Check.about("promise 7: TAKEN, whatever it lacks");
        TentYard x = crowd(2, 4);
        int[] due = {0, 0, 1, 2};
        for (int f = 0; f < 4; f++) {
            Check.due("OWN 2: hire(" + f + ")", x.hire(f), due[f]);
            Check.due("about(" + f + ", 0)", x.about(f, 0), 1);
        }
        Check.due("HIRE 0", single(0, 60, 0).hired(1), 427);
        TentYard y = single(0, 60, 0);
        y.thing(0, 0, 0, 1, 0, 1);
        y.field(0, 60, 0);
        y.need(1, 0, 500);
        Check.due("hire(1): HIRE 0", y.hire(1), 0);
        Check.due("lack(0, 60)", y.lack(0, 60), 507);
    }

    private static void givenUpFromTwoKinds() {
        Check.about("promise 8: a TAKEN or ASKED FIELD, NO: it is neither");
        int[] due = {1, 1, NO, NO};
        int[] then = {Yards.GIVEN_UP, Yards.GIVEN_UP, Yards.GIVEN_UP, Yards.BACK};
        for (int state = 0; state < 4; state++) {
            TentYard x = crowd(1, 1);
            Yards.bring(x, 0, state);
            Check.due("giveUp(0): state " + state, x.giveUp(0), due[state]);
            Check.due("about(0, 0): state " + state, x.about(0, 0), then[state]);
            Check.due("count(1): state " + state, x.count(1), 0);
            Check.due("lack(0, 0): state " + state, x.lack(0, 0), 0);
        }
    }

    private static void backFromOneKind() {
        Check.about("promise 10: a TAKEN FIELD, NO: not TAKEN");
        for (int state = 0; state < 4; state++) {
            TentYard x = crowd(0, 1);
            Yards.bring(x, 0, state);
            boolean taken = state == Yards.TAKEN;
            Check.due("lack(0, 0): state " + state, x.lack(0, 0), taken ? 1 : 0);
            Check.due("back(0): state " + state, x.back(0), taken ? 1 : NO);
            Check.due("about(0, 0): state " + state, x.about(0, 0), taken ? Yards.BACK : state);
            Check.due("lack(0, 0): it uses nothing then", x.lack(0, 0), 0);
        }
    }

    private static void needTellsWhatItWas() {
        Check.about("promise 4: what it was");
        TentYard x = new TentYard();
        for (int f = 0; f < 10; f++) {
            x.field(0, 0, 0);
            for (int t = 0; t < 6; t++) {
                Check.due("need(" + f + ", " + t + ", ..)", x.need(f, t, 6 * f + t + 1), 0);
            }
        }
        for (int f = 9; f >= 0; f--) {
            for (int t = 5; t >= 0; t--) {
                Check.due("need(" + f + ", " + t + ", 500)", x.need(f, t, 500), 6 * f + t + 1);
                Check.due("need(" + f + ", " + t + ", 501)", x.need(f, t, 501), BAD);
                Check.due("need(" + f + ", " + t + ", 500)", x.need(f, t, 500), 500);
                Check.due("need(" + f + ", " + t + ", 0)", x.need(f, t, 0), 500);
            }
        }
        Check.due("fits(1023): all is 0 again", x.fits(1023), 1);
    }

    private static void rainToldTwice() {
        Check.about("promise 5: RAIN on a day, or none: 1");
        TentYard x = new TentYard();
        Check.due("none, where none was", x.rain(0, false), 1);
        Check.due("count(3)", x.count(3), 0);
        int[] days = {0, 60};
        for (int day : days) {
            Check.due("rain(" + day + ", true)", x.rain(day, true), 1);
            Check.due("rain(" + day + ", true) again", x.rain(day, true), 1);
            Check.due("count(3)", x.count(3), 1);
            Check.due("rain(" + day + ", false)", x.rain(day, false), 1);
            Check.due("rain(" + day + ", false) again", x.rain(day, false), 1);
            Check.due("count(3)", x.count(3), 0);
        }
    }

    private static void changeTellsWhetherAllFit() {
        Check.about("promise 9: whether all TAKEN do");
        TentYard x = crowd(6, 2);
        x.take(0);
        x.take(1);
        Check.due("change(0, 0, 5): 6 of 6", x.change(0, 0, 5), 1);
        Check.due("change(0, 0, 6): 7 of 6", x.change(0, 0, 6), 0);
        Check.due("change(1, 0, 0): 6 of 6", x.change(1, 0, 0), 1);
        Check.due("change(0, 0, 500)", x.change(0, 0, 500), 0);
        Check.due("lack(0, 0)", x.lack(0, 0), 494);
        Check.due("change(1, 5, 0): another lacks still", x.change(1, 5, 0), 0);
        Check.due("change(0, 0, 0)", x.change(0, 0, 0), 1);
        x.back(0);
        Check.due("missing(0, 0, 1): it needed none at last", x.missing(0, 0, 1), BAD);
    }

    private static void missingFromZeroToWhatItNeeded() {
        Check.about("promise 11: n, 0 .. what it NEEDED");
        for (int n = -1; n <= 8; n++) {
            TentYard x = single(0, 0, 0);
            x.thing(0, 1000, 0, 1, 1, 10000);
            x.back(0);
            boolean may = n >= 0 && n <= 7;
            Check.due("missing(0, 0, " + n + ") of 7", x.missing(0, 0, n), may ? 10000 * n : BAD);
            Check.due("count(4)", x.count(4), may ? n : 0);
            Check.due("count(5)", x.count(5), may ? 10000 * n : 0);
            Check.due("told already, or refused and open", x.missing(0, 0, 7), may ? NO : 70000);
        }
    }

    private static void missingOfWhatWasNotNeeded() {
        Check.about("promise 11: of what it needed 0");
        TentYard x = single(0, 0, 0);
        x.back(0);
        for (int t = 1; t < 6; t++) {
            Check.due("missing(0, " + t + ", 1)", x.missing(0, t, 1), BAD);
            Check.due("missing(0, " + t + ", 0)", x.missing(0, t, 0), 0);
            Check.due("missing(0, " + t + ", 0) again", x.missing(0, t, 0), NO);
        }
        Check.due("count(4)", x.count(4), 0);
    }

    private static void billsAtTheirMost() {
        Check.about("promise 11: all bills at their most");
        TentYard x = new TentYard();
        for (int t = 0; t < 6; t++) {
            x.thing(t, 1000, 0, 1, 0, 10000);
        }
        int told = 0;
        for (int f = 0; f < 10; f++) {
            x.field(f, f, 0);
            for (int t = 0; t < 6; t++) {
                x.need(f, t, 500);
            }
            x.hire(f);
            x.back(f);
            for (int t = 0; t < 6; t++) {
                Check.due("missing(" + f + ", " + t + ", 500)", x.missing(f, t, 500), 5000000);
                told++;
                Check.due("count(5)", x.count(5), 5000000L * told);
                Check.due("count(4)", x.count(4), 500L * told);
                Check.due("mend(" + t + ", 0)", x.mend(t, 0), 500L * (f + 1));
            }
        }
        Check.due("count(5)", x.count(5), 300000000);
        Check.due("count(4)", x.count(4), 30000);
    }

    private static void mendedDownToZero() {
        Check.about("promise 12: how many are GONE then");
        for (int n = -1; n <= 8; n++) {
            TentYard x = single(0, 0, 0);
            x.back(0);
            x.missing(0, 0, 7);
            Check.due("mend(0, " + n + ") of 7", x.mend(0, n), n < 0 ? BAD : n > 7 ? NO : 7 - n);
            Check.due("count(4)", x.count(4), n < 0 || n > 7 ? 7 : 7 - n);
        }
        TentYard x = new TentYard();
        for (int f = 0; f < 3; f++) {
            x.field(0, 0, 0);
            x.need(f, 4, 500);
            x.hire(f);
            x.back(f);
            x.missing(f, 4, f < 2 ? 500 : 1);
        }
        Check.due("mend(4, 1001): as many are GONE, but it is not as told", x.mend(4, 1001), BAD);
        Check.due("mend(4, 1000)", x.mend(4, 1000), 1);
        Check.due("mend(4, 2)", x.mend(4, 2), NO);
        Check.due("mend(4, 1)", x.mend(4, 1), 0);
    }

    private static void setsOfNoFields() {
        Check.about("promises 15 and 18: a set, one that is not there");
        TentYard x = new TentYard();
        for (int size = 0; size <= 10; size++) {
            Check.due("fits(0)", x.fits(0), 1);
            Check.due("hired(0)", x.hired(0), 0);
            Check.due("all of " + size + ": fits", x.fits((1 << size) - 1), 1);
            Check.due("all of " + size + ": hired", x.hired((1 << size) - 1), 0);
            for (int bit = size; bit < 32; bit++) {
                Check.due("fits(1 << " + bit + ") of " + size, x.fits(1 << bit), BAD);
                Check.due("hired(1 << " + bit + ") of " + size, x.hired(1 << bit), BAD);
            }
            Check.due("fits(-1) of " + size, x.fits(-1), BAD);
            x.field(0, 0, 0);
        }
    }

    private static void unlawOfNone() {
        Check.about("promise 22: all LINES go: how many");
        TentYard x = new TentYard();
        for (int lines = 0; lines <= 6; lines++) {
            for (int i = 1; i <= lines; i++) {
                x.law(i, i);
            }
            Check.due("unlaw()", x.unlaw(), lines);
            Check.due("count(2)", x.count(2), 0);
            Check.due("unlaw() again", x.unlaw(), 0);
            Check.due("doors(5000)", x.doors(5000), 1);
        }
    }

    private static void countsAtTheirMost() {
        Check.about("promise 32: how many, at the most");
        TentYard x = new TentYard();
        for (int day = 0; day <= 60; day++) {
            x.rain(day, true);
        }
        for (int f = 0; f < 10; f++) {
            x.field(f, 60, 0);
            x.take(f);
            Check.due("count(1)", x.count(1), f + 1);
        }
        Check.due("count(0)", x.count(0), 10);
        Check.due("count(3)", x.count(3), 61);
        for (int f = 0; f < 10; f++) {
            x.giveUp(f);
        }
        Check.due("count(0): they stay", x.count(0), 10);
        Check.due("count(1)", x.count(1), 0);
    }

    /** Folded without a bound, then cut to what a long holds. */
    private static void theDigestWrapsAround() {
        Check.about("promise 33: h = 31 h + v");
        BigInteger h = BigInteger.valueOf(179);
        List<Long> values = new ArrayList<>();
        TentYard x = Yards.full();
        for (int what = 0; what <= 5; what++) {
            values.add((long) x.count(what));
        }
        int[] gone = {1, 2, 0, 0, 0, 0};
        for (int f = 0; f < 10; f++) {
            for (int what = 0; what <= 6; what++) {
                values.add((long) x.about(f, what));
            }
            for (int t = 0; t < 6; t++) {
                values.add(f < 8 ? 2L + (f + t) % 4 : 0);
            }
        }
        for (int t = 0; t < 6; t++) {
            values.add(10L * t + 12);
            values.add((long) gone[t]);
        }
        long[] rest = {50, 2, 200, 12, 1000, 40, 2000, 50, 3000, 60, 4000, 70, 100, 300, 100, 100};
        for (long v : rest) {
            values.add(v);
        }
        for (long v : values) {
            h = h.multiply(BigInteger.valueOf(31)).add(BigInteger.valueOf(v));
        }
        Check.holds("it is far beyond a long", h.bitLength() > 700);
        Check.due("digest()", x.digest(), h.longValue());
        Check.due("digest() again", x.digest(), h.longValue());
    }
}
