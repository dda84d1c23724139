/** Promises 2 and 3 at their edges, a method for each sentence. */
public final class MonksEdgesTest {
    private static final int NONE = AbbeyHours.NONE;
    private static final Due DUE = new Due();
    private static final Refusals REFUSED = new Refusals(DUE);

    public static void main(String[] args) {
        barsAre0To15();
        eachBarIsOneDuty();
        monksAre24AtMost();
        awayOfAMonkWhoIsThere();
        awayNotAheadOfToday();
        awayEndsOnADay();
        awayEndsNotAheadOfItsBeginning();
        awayOnBothDays();
        awayRowsAre60AtMost();
        rowsAreCountedOverAllMonks();
        ableUnlessOneRowTellsOtherwise();
        DUE.end();
    }

    private static void barsAre0To15() {
        DUE.is("2: bars 0", new AbbeyHours().monk(false, 0), 0);
        DUE.is("2: bars 15", new AbbeyHours().monk(true, 15), 0);
        REFUSED.outside("2: bars", 0, 15, (x, bars) -> x.monk(true, bars), NONE);
        REFUSED.outside("2: bars of one who is no priest", 0, 15, (x, bars) -> x.monk(false, bars), NONE);
    }

    private static void eachBarIsOneDuty() {
        for (int duty = 0; duty < 4; duty++) {
            AbbeyHours x = new AbbeyHours();
            x.monk(false, 15 - (1 << duty));
            x.monk(false, 1 << duty);
            x.day();
            for (int other = 0; other < 4; other++) {
                int first = duty == 0 ? 1 : 0;
                DUE.is("2: all bars but that of " + duty + ": turn(0, " + other + ")", x.turn(0, other),
                        other == duty ? 0 : other == first ? 1 : NONE);
            }
        }
    }

    /** Six monks for each duty, and more masses than all of them say in a day: a change of any one would show. */
    private static void fullOfPriests(AbbeyHours x) {
        for (int i = 0; i < 24; i++) {
            x.monk(true, 15 - (1 << i % 4));
        }
        manyGifts(x);
    }

    /** Nobody who may do anything: a change of any one would show. */
    private static void fullOfBarred(AbbeyHours x) {
        for (int i = 0; i < 24; i++) {
            x.monk(false, 15);
        }
        manyGifts(x);
    }

    private static void manyGifts(AbbeyHours x) {
        for (int i = 0; i < 40; i++) {
            x.gift(true, 0, true);
        }
    }

    private static void monksAre24AtMost() {
        AbbeyHours x = new AbbeyHours();
        for (int i = 0; i < 24; i++) {
            DUE.is("2: monk " + i, x.monk(i % 3 == 0, i % 16), i);
        }
        DUE.is("2: count(1) of 24", x.count(1), 24);
        REFUSED.is("2: a priest as the 25th", MonksEdgesTest::fullOfBarred, y -> y.monk(true, 0), NONE);
        REFUSED.is("2: another one as the 25th", MonksEdgesTest::fullOfPriests, y -> y.monk(false, 15), NONE);
        REFUSED.is("2: the 25th with wrong bars", MonksEdgesTest::fullOfPriests, y -> y.monk(true, 16), NONE);
    }

    private static void awayOfAMonkWhoIsThere() {
        AbbeyHours x = new AbbeyHours();
        fullOfPriests(x);
        DUE.is("3: away of the first", x.away(0, 0, 0), 1);
        DUE.is("3: away of the last", x.away(23, 0, 0), 2);
        REFUSED.outside("3: away of monk", 0, 4, (y, monk) -> y.away(monk, 3, 4), NONE);
        REFUSED.is("3: away of the 25th", MonksEdgesTest::fullOfPriests, y -> y.away(24, 0, 1), NONE);
        REFUSED.is("3: away of nobody", Refusals::fresh, y -> y.away(0, 0, 0), NONE);
    }

    private static void awayNotAheadOfToday() {
        AbbeyHours x = new AbbeyHours();
        x.monk(false, 0);
        DUE.is("3: away from day 0 on day 0", x.away(0, 0, 9), 1);
        REFUSED.is("3: away from day -1 on day 0", y -> y.away(0, -1, 9), NONE);
        AbbeyHours busy = new AbbeyHours();
        Refusals.busy(busy);
        DUE.is("3: away from day 3 on day 3", busy.away(0, 3, 9), 2);
        REFUSED.is("3: away from day 2 on day 3", Refusals::busy, y -> y.away(0, 2, 9), NONE);
        REFUSED.is("3: away from day 0 on day 3", Refusals::busy, y -> y.away(0, 0, 9), NONE);
        REFUSED.is("3: away on day 2 alone on day 3", Refusals::busy, y -> y.away(0, 2, 2), NONE);
        REFUSED.is("3: away from min", y -> y.away(0, Integer.MIN_VALUE, 9), NONE);
    }

    private static void awayEndsOnADay() {
        AbbeyHours x = new AbbeyHours();
        x.monk(false, 0);
        DUE.is("3: away up to day 1,094", x.away(0, 0, 1094), 1);
        DUE.is("3: away on day 1,094 alone", x.away(0, 1094, 1094), 2);
        REFUSED.is("3: away up to day 1,095", y -> y.away(0, 3, 1095), NONE);
        REFUSED.is("3: away on day 1,095", y -> y.away(0, 1095, 1095), NONE);
        REFUSED.is("3: away up to max", y -> y.away(0, 3, Integer.MAX_VALUE), NONE);
        REFUSED.is("3: away from max up to max",
                y -> y.away(0, Integer.MAX_VALUE, Integer.MAX_VALUE), NONE);
    }

    private static void awayEndsNotAheadOfItsBeginning() {
        AbbeyHours x = new AbbeyHours();
        x.monk(false, 0);
        DUE.is("3: away from day 5 to day 5", x.away(0, 5, 5), 1);
        REFUSED.is("3: away from day 5 to day 4", y -> y.away(0, 5, 4), NONE);
        REFUSED.is("3: away from day 1,094 to day 3", y -> y.away(0, 1094, 3), NONE);
        REFUSED.is("3: away from day 5 to min", y -> y.away(0, 5, Integer.MIN_VALUE), NONE);
    }

    private static void awayOnBothDays() {
        AbbeyHours x = new AbbeyHours();
        x.monk(true, 0);
        x.gift(true, 0, false);
        x.gift(true, 1, false);
        x.gift(true, 2, false);
        x.gift(true, 3, false);
        x.gift(true, 4, false);
        x.away(0, 1, 3);
        Due.goBy(x, 5);
        int[] able = {1, 0, 0, 0, 1};
        for (int day = 0; day < 5; day++) {
            DUE.is("3: duty on day " + day, x.turn(day, 0), able[day] == 1 ? 0 : NONE);
            DUE.is("3: masses said on day " + day, x.dayOf(day, 3), able[day]);
            DUE.is("3: fed all the same on day " + day, x.dayOf(day, 1), 2);
        }
    }

    /** A busy object whose other 59 rows are all alike, so that a change of any one would show. */
    private static Refusals.State fullOfAbsences(int monk, int from, int to) {
        return x -> {
            Refusals.busy(x);
            for (int i = 2; i <= 60; i++) {
                x.away(monk, from, to);
            }
        };
    }

    private static void awayRowsAre60AtMost() {
        AbbeyHours x = new AbbeyHours();
        Refusals.busy(x);
        for (int i = 2; i <= 60; i++) {
            DUE.is("3: row " + i, x.away(i % 5, 3 + i, 4 + i), i);
        }
        REFUSED.is("3: row 61, of another monk", fullOfAbsences(0, 3, 1094), y -> y.away(2, 3, 1094), NONE);
        REFUSED.is("3: row 61, from another day", fullOfAbsences(0, 1094, 1094), y -> y.away(0, 3, 1094), NONE);
        REFUSED.is("3: row 61, to another day", fullOfAbsences(0, 3, 3), y -> y.away(0, 4, 1094), NONE);
        REFUSED.is("3: row 61, as one that is there", fullOfAbsences(0, 5, 6), y -> y.away(0, 5, 6), NONE);
    }

    private static void rowsAreCountedOverAllMonks() {
        AbbeyHours x = new AbbeyHours();
        x.monk(false, 0);
        x.monk(false, 0);
        DUE.is("3: the first row of monk 0", x.away(0, 0, 0), 1);
        DUE.is("3: the first row of monk 1", x.away(1, 0, 0), 2);
        DUE.is("3: the same row again", x.away(1, 0, 0), 3);
        x.day();
        DUE.is("3: rows stay as days go by", x.away(0, 1, 1), 4);
    }

    private static void ableUnlessOneRowTellsOtherwise() {
        AbbeyHours x = new AbbeyHours();
        x.monk(false, 14);
        x.away(0, 2, 3);
        x.away(0, 0, 0);
        x.away(0, 3, 4);
        Due.goBy(x, 6);
        int[] holder = {NONE, 0, NONE, NONE, NONE, 0};
        for (int day = 0; day < 6; day++) {
            DUE.is("3: by three rows: turn(" + day + ", 0)", x.turn(day, 0), holder[day]);
        }
    }
}
