/** Promises 14, 15 and 16 at their edges, with MASSES of the terms, a method for each sentence. */
public final class GiftsEdgesTest {
    private static final int NONE = AbbeyHours.NONE;
    private static final Due DUE = new Due();
    private static final Refusals REFUSED = new Refusals(DUE);

    public static void main(String[] args) {
        weekdaysAre0To6();
        daysOfTheYearAre0To364();
        giftsAre40AtMost();
        dueOnItsWeekdayOverTheYearsEnd();
        dueOnItsDayInEachYear();
        dueFromTodayOn();
        twoIfDoubled();
        leaveOfAGiftThatIsThere();
        leaveFromDay0();
        leaveUpToDay1094();
        leaveEndsNotAheadOfItsBeginning();
        leaveOnBothDays();
        leaveOfOneGiftAlone();
        leaveOfDaysGoneBy();
        leaveToldTwiceCountsOnce();
        leaveRowsAre40AtMost();
        giftOfOnesThatAreThere();
        giftOfIs0To2();
        eachPriestSaysOne();
        noneIsSaidBeyondThoseOwed();
        ofTheMostOwedTheLeast();
        DUE.end();
    }

    private static void masses(String what, AbbeyHours x, int gift, int owed, int said, int byLeave) {
        DUE.is("16: " + what + ": giftOf(" + gift + ", 0)", x.giftOf(gift, 0), owed);
        DUE.is("16: " + what + ": giftOf(" + gift + ", 1)", x.giftOf(gift, 1), said);
        DUE.is("16: " + what + ": giftOf(" + gift + ", 2)", x.giftOf(gift, 2), byLeave);
    }

    private static void weekdaysAre0To6() {
        DUE.is("14: a gift on weekday 0", new AbbeyHours().gift(true, 0, false), 0);
        DUE.is("14: a gift on weekday 6", new AbbeyHours().gift(true, 6, true), 0);
        REFUSED.outside("14: a gift on weekday", 0, 6, (x, n) -> x.gift(true, n, true), NONE);
        REFUSED.is("14: a gift on weekday 364", x -> x.gift(true, 364, false), NONE);
    }

    private static void daysOfTheYearAre0To364() {
        DUE.is("14: a gift on day 0", new AbbeyHours().gift(false, 0, false), 0);
        DUE.is("14: a gift on day 7", new AbbeyHours().gift(false, 7, false), 0);
        DUE.is("14: a gift on day 364", new AbbeyHours().gift(false, 364, true), 0);
        REFUSED.outside("14: a gift on day", 0, 364, (x, n) -> x.gift(false, n, true), NONE);
    }

    /** Forty that are alike: a change of any one would show. */
    private static void fullOfGifts(AbbeyHours x) {
        for (int i = 0; i < 40; i++) {
            x.gift(true, 0, false);
        }
    }

    private static void giftsAre40AtMost() {
        AbbeyHours x = new AbbeyHours();
        for (int i = 0; i < 40; i++) {
            DUE.is("14: gift " + i, x.gift(i % 2 == 0, i % 7, i % 3 == 0), i);
        }
        DUE.is("24: count(3) of 40", x.count(3), 40);
        REFUSED.is("14: the 41st, weekly", GiftsEdgesTest::fullOfGifts, y -> y.gift(true, 0, true), NONE);
        REFUSED.is("14: the 41st, yearly", GiftsEdgesTest::fullOfGifts, y -> y.gift(false, 1, false), NONE);
        AbbeyHours z = new AbbeyHours();
        for (int i = 0; i < 39; i++) {
            z.gift(false, 100, false);
        }
        z.gift(false, 0, false);
        z.day();
        masses("the 40th is due as the others", z, 39, 1, 0, 0);
    }

    private static void dueOnItsWeekdayOverTheYearsEnd() {
        AbbeyHours x = new AbbeyHours();
        x.gift(true, 0, false);
        x.gift(true, 1, false);
        x.gift(true, 6, false);
        Due.goBy(x, 6);
        masses("ahead of weekday 6", x, 2, 0, 0, 0);
        Due.goBy(x, 1);
        masses("behind weekday 6", x, 2, 1, 0, 0);
        masses("once in a week", x, 0, 1, 0, 0);
        Due.goBy(x, 357);
        masses("ahead of day 364", x, 0, 52, 0, 0);
        Due.goBy(x, 1);
        masses("day 364 is a weekday 0", x, 0, 53, 0, 0);
        masses("ahead of day 365", x, 1, 52, 0, 0);
        Due.goBy(x, 1);
        masses("day 365 is no weekday 0", x, 0, 53, 0, 0);
        masses("day 365 is a weekday 1", x, 1, 53, 0, 0);
    }

    private static void dueOnItsDayInEachYear() {
        AbbeyHours x = new AbbeyHours();
        x.gift(false, 0, false);
        x.gift(false, 364, false);
        x.gift(false, 1, false);
        Due.goBy(x, 1);
        masses("on day 0", x, 0, 1, 0, 0);
        masses("not on day 0", x, 2, 0, 0, 0);
        Due.goBy(x, 363);
        masses("ahead of day 364", x, 1, 0, 0, 0);
        Due.goBy(x, 1);
        masses("on day 364", x, 1, 1, 0, 0);
        masses("ahead of day 365", x, 0, 1, 0, 0);
        Due.goBy(x, 1);
        masses("on day 365", x, 0, 2, 0, 0);
        masses("not on day 365", x, 2, 1, 0, 0);
        Due.goBy(x, 1);
        masses("on day 366", x, 2, 2, 0, 0);
    }

    private static void dueFromTodayOn() {
        AbbeyHours x = new AbbeyHours();
        Due.goBy(x, 8);
        x.gift(true, 0, false);
        x.gift(true, 1, false);
        x.gift(false, 7, false);
        x.gift(false, 8, false);
        DUE.is("14: nothing is owed yet", x.count(7), 0);
        x.day();
        masses("its weekday was the day ahead", x, 0, 0, 0, 0);
        masses("its weekday is this day", x, 1, 1, 0, 0);
        masses("its day was the day ahead", x, 2, 0, 0, 0);
        masses("its day is this day", x, 3, 1, 0, 0);
    }

    private static void twoIfDoubled() {
        AbbeyHours x = new AbbeyHours();
        x.gift(true, 0, false);
        x.gift(true, 0, true);
        x.gift(false, 0, false);
        x.gift(false, 0, true);
        x.day();
        for (int gift = 0; gift < 4; gift++) {
            masses("doubled or not", x, gift, 1 + gift % 2, 0, 0);
        }
        DUE.is("24: count(7)", x.count(7), 6);
        DUE.is("23: dayOf(0, 4)", x.dayOf(0, 4), 6);
    }

    private static void leaveOfAGiftThatIsThere() {
        AbbeyHours x = new AbbeyHours();
        fullOfGifts(x);
        DUE.is("15: leave of the first", x.leave(0, 0, 0), 1);
        DUE.is("15: leave of the last", x.leave(39, 0, 0), 2);
        REFUSED.outside("15: leave of gift", 0, 2, (y, gift) -> y.leave(gift, 3, 9), NONE);
        REFUSED.is("15: leave of the 41st", GiftsEdgesTest::fullOfGifts, y -> y.leave(40, 0, 9), NONE);
        REFUSED.is("15: leave of none", Refusals::fresh, y -> y.leave(0, 0, 9), NONE);
    }

    private static AbbeyHours busy() {
        AbbeyHours x = new AbbeyHours();
        Refusals.busy(x);
        return x;
    }

    private static void leaveFromDay0() {
        DUE.is("15: leave from day 0 on day 3", busy().leave(0, 0, 9), 2);
        REFUSED.is("15: leave from day -1", x -> x.leave(0, -1, 9), NONE);
        REFUSED.is("15: leave from min", x -> x.leave(0, Integer.MIN_VALUE, 9), NONE);
    }

    private static void leaveUpToDay1094() {
        DUE.is("15: leave up to day 1,094", busy().leave(0, 0, 1094), 2);
        DUE.is("15: leave on day 1,094", busy().leave(0, 1094, 1094), 2);
        REFUSED.is("15: leave up to day 1,095", x -> x.leave(0, 3, 1095), NONE);
        REFUSED.is("15: leave on day 1,095", x -> x.leave(0, 1095, 1095), NONE);
        REFUSED.is("15: leave up to max", x -> x.leave(0, 3, Integer.MAX_VALUE), NONE);
    }

    private static void leaveEndsNotAheadOfItsBeginning() {
        DUE.is("15: leave from day 7 to day 7", busy().leave(0, 7, 7), 2);
        REFUSED.is("15: leave from day 7 to day 6", x -> x.leave(0, 7, 6), NONE);
        REFUSED.is("15: leave from day 1,094 to day 0", x -> x.leave(0, 1094, 0), NONE);
        REFUSED.is("15: leave from day 0 to day -1", x -> x.leave(0, 0, -1), NONE);
    }

    private static void leaveOnBothDays() {
        AbbeyHours x = new AbbeyHours();
        for (int weekday = 0; weekday < 5; weekday++) {
            x.gift(true, weekday, false);
            x.leave(weekday, 1, 3);
        }
        Due.goBy(x, 5);
        masses("the day ahead", x, 0, 1, 0, 0);
        masses("its first day", x, 1, 0, 0, 1);
        masses("between", x, 2, 0, 0, 1);
        masses("its last day", x, 3, 0, 0, 1);
        masses("the day behind", x, 4, 1, 0, 0);
    }

    private static void leaveOfOneGiftAlone() {
        AbbeyHours x = new AbbeyHours();
        x.gift(true, 0, true);
        x.gift(true, 0, true);
        x.gift(true, 0, true);
        x.leave(1, 0, 0);
        x.day();
        masses("of the one ahead", x, 0, 2, 0, 0);
        masses("of the one that has leave, doubled", x, 1, 0, 0, 2);
        masses("of the one behind", x, 2, 2, 0, 0);
        DUE.is("23: owed behind it", x.dayOf(0, 4), 4);
    }

    private static void leaveOfDaysGoneBy() {
        AbbeyHours x = new AbbeyHours();
        x.gift(true, 0, false);
        x.day();
        DUE.is("15: leave of the day ahead", x.leave(0, 0, 0), 1);
        masses("what's owed stays owed", x, 0, 1, 0, 0);
        Due.goBy(x, 7);
        masses("and the next is owed", x, 0, 2, 0, 0);
    }

    private static void leaveToldTwiceCountsOnce() {
        AbbeyHours x = new AbbeyHours();
        x.gift(true, 0, true);
        DUE.is("15: the first row", x.leave(0, 0, 5), 1);
        DUE.is("15: the second row", x.leave(0, 0, 5), 2);
        x.day();
        masses("two rows", x, 0, 0, 0, 2);
    }

    /** A busy object whose other 39 rows are all alike, so that a change of any one would show. */
    private static Refusals.State fullOfLeave(int gift, int from, int to) {
        return x -> {
            Refusals.busy(x);
            for (int row = 2; row <= 40; row++) {
                x.leave(gift, from, to);
            }
        };
    }

    private static void leaveRowsAre40AtMost() {
        AbbeyHours x = busy();
        for (int row = 2; row <= 40; row++) {
            DUE.is("15: row " + row, x.leave(row % 2, 100 + row, 101 + row), row);
        }
        REFUSED.is("15: row 41, of another gift", fullOfLeave(2, 3, 1094), y -> y.leave(1, 3, 1094), NONE);
        REFUSED.is("15: row 41, from another day", fullOfLeave(2, 1094, 1094), y -> y.leave(2, 3, 1094), NONE);
        REFUSED.is("15: row 41, to another day", fullOfLeave(2, 3, 3), y -> y.leave(2, 4, 1094), NONE);
        REFUSED.is("15: row 41, as one that is there", fullOfLeave(0, 7, 7), y -> y.leave(0, 7, 7), NONE);
        AbbeyHours z = new AbbeyHours();
        z.gift(true, 0, false);
        for (int row = 1; row < 40; row++) {
            z.leave(0, 1, 1);
        }
        z.leave(0, 0, 0);
        z.day();
        masses("the 40th row holds", z, 0, 0, 0, 1);
    }

    private static void giftOfOnesThatAreThere() {
        for (int what = 0; what <= 2; what++) {
            int asked = what;
            AbbeyHours x = new AbbeyHours();
            x.gift(true, 0, false);
            DUE.is("16: giftOf(0, " + what + ") of a new one", x.giftOf(0, what), 0);
            REFUSED.outside("16: giftOf " + what + " of gift", 0, 2, (y, gift) -> y.giftOf(gift, asked), NONE);
        }
        REFUSED.is("16: giftOf the 41st", GiftsEdgesTest::fullOfGifts, y -> y.giftOf(40, 0), NONE);
        REFUSED.is("16: giftOf none", Refusals::fresh, y -> y.giftOf(0, 0), NONE);
    }

    private static void giftOfIs0To2() {
        REFUSED.outside("16: giftOf(0, ..)", 0, 2, (x, what) -> x.giftOf(0, what), NONE);
    }

    private static void eachPriestSaysOne() {
        AbbeyHours x = new AbbeyHours();
        x.monk(false, 0);
        x.monk(true, 15);
        x.monk(true, 0);
        x.monk(true, 0);
        x.away(3, 0, 0);
        for (int i = 0; i < 10; i++) {
            x.gift(false, 0, false);
        }
        Due.goBy(x, 4);
        int[] said = {2, 3, 3, 2};
        int owed = 10;
        for (int day = 0; day < 4; day++) {
            owed -= said[day];
            DUE.is("23: said on day " + day, x.dayOf(day, 3), said[day]);
            DUE.is("23: owed behind day " + day, x.dayOf(day, 4), owed);
        }
        DUE.is("24: said in all", x.count(8), 10);
        DUE.is("24: owed at last", x.count(7), 0);
    }

    private static void noneIsSaidBeyondThoseOwed() {
        AbbeyHours x = new AbbeyHours();
        for (int i = 0; i < 24; i++) {
            x.monk(true, 0);
        }
        x.day();
        DUE.is("23: said without a gift", x.dayOf(0, 3), 0);
        x.gift(true, 1, true);
        Due.goBy(x, 2);
        DUE.is("23: said of two", x.dayOf(1, 3), 2);
        DUE.is("23: said of none", x.dayOf(2, 3), 0);
        masses("all said", x, 0, 0, 2, 0);
        AbbeyHours y = new AbbeyHours();
        y.gift(true, 0, false);
        y.day();
        DUE.is("23: said by no priest", y.dayOf(0, 3), 0);
    }

    private static void ofTheMostOwedTheLeast() {
        AbbeyHours x = new AbbeyHours();
        x.gift(true, 0, false);
        x.gift(true, 0, true);
        x.gift(true, 0, true);
        x.day();
        x.monk(true, 0);
        int[][] owed = {{1, 1, 2}, {1, 1, 1}, {0, 1, 1}, {0, 0, 1}, {0, 0, 0}};
        for (int[] due : owed) {
            x.day();
            for (int gift = 0; gift < 3; gift++) {
                DUE.is("16: behind day " + (x.count(0) - 1) + ": giftOf(" + gift + ", 0)", x.giftOf(gift, 0),
                        due[gift]);
            }
        }
    }
}
