/** Promises 17, 18, 19 and 23 at their edges, with FOOD and CANDLES of the terms, a method for each sentence. */
public final class DaysEdgesTest {
    private static final int NONE = AbbeyHours.NONE;
    private static final Due DUE = new Due();
    private static final Refusals REFUSED = new Refusals(DUE);

    public static void main(String[] args) {
        storeTakes0To10000();
        storeIs1000000AtMost();
        guestsAre1To50();
        ranksOfGuestsAre0To5();
        guestsAre200AtMost();
        guestsOfTodayAlone();
        dayGoesUpTo1094();
        dayOfDaysGoneBy();
        dayOfIs0To4();
        foodAsFarAsTheStoreGoes();
        foodOfAllMonks();
        foodOfNobody();
        foodByFeastAndFastInEachYear();
        candlesAheadOfSunrise();
        candlesBehindSunset();
        candlesOfOneDayAlone();
        candlesOverTheYearsEnd();
        figuresAreOfTheirDay();
        DUE.end();
    }

    private static void fullStore(AbbeyHours x) {
        x.monk(false, 0);
        for (int i = 0; i < 99; i++) {
            x.store(10_000);
        }
        x.store(9_999);
    }

    private static void storeTakes0To10000() {
        DUE.is("17: store(0)", new AbbeyHours().store(0), 0);
        DUE.is("17: store(1)", new AbbeyHours().store(1), 1);
        DUE.is("17: store(10000)", new AbbeyHours().store(10_000), 10_000);
        REFUSED.outside("17: store", 0, 10_000, AbbeyHours::store, NONE);
    }

    private static void storeIs1000000AtMost() {
        AbbeyHours x = new AbbeyHours();
        fullStore(x);
        DUE.is("24: count(4)", x.count(4), 999_999);
        REFUSED.is("17: store(2) at 999,999", DaysEdgesTest::fullStore, y -> y.store(2), NONE);
        REFUSED.is("17: store(10000) at 999,999", DaysEdgesTest::fullStore, y -> y.store(10_000), NONE);
        DUE.is("17: store(0) at 999,999", x.store(0), 999_999);
        DUE.is("17: store(1) at 999,999", x.store(1), 1_000_000);
        DUE.is("17: store(0) at 1,000,000", x.store(0), 1_000_000);
        DUE.is("17: store(1) at 1,000,000", x.store(1), NONE);
        x.day();
        DUE.is("24: less by a day's food", x.count(4), 999_998);
        DUE.is("17: and there is room again", x.store(2), 1_000_000);
    }

    private static void guestsAre1To50() {
        DUE.is("18: guests(1, 0)", new AbbeyHours().guests(1, 0), 1);
        DUE.is("18: guests(50, 0)", new AbbeyHours().guests(50, 0), 50);
        REFUSED.outside("18: guests", 1, 50, (x, many) -> x.guests(many, 3), NONE);
    }

    private static void ranksOfGuestsAre0To5() {
        DUE.is("18: guests(2, 0)", new AbbeyHours().guests(2, 0), 2);
        DUE.is("18: guests(2, 5)", new AbbeyHours().guests(2, 5), 2);
        REFUSED.outside("18: guests of rank", 0, 5, (x, rank) -> x.guests(9, rank), NONE);
    }

    private static void manyGuests(AbbeyHours x) {
        x.guests(50, 5);
        x.guests(50, 0);
        x.guests(50, 1);
        x.guests(49, 2);
    }

    private static void guestsAre200AtMost() {
        AbbeyHours x = new AbbeyHours();
        manyGuests(x);
        DUE.is("24: count(5)", x.count(5), 199);
        REFUSED.is("18: guests(2, 0) at 199", DaysEdgesTest::manyGuests, y -> y.guests(2, 0), NONE);
        REFUSED.is("18: guests(50, 5) at 199", DaysEdgesTest::manyGuests, y -> y.guests(50, 5), NONE);
        DUE.is("18: guests(1, 4) at 199", x.guests(1, 4), 200);
        DUE.is("18: guests(1, 0) at 200", x.guests(1, 0), NONE);
        x.day();
        DUE.is("23: their food", x.dayOf(0, 1), 200 * 3 + 50 * 5 + 50 + 49 * 2 + 4);
    }

    private static void guestsOfTodayAlone() {
        AbbeyHours x = new AbbeyHours();
        manyGuests(x);
        x.day();
        DUE.is("24: none on the next day", x.count(5), 0);
        DUE.is("18: room again", x.guests(50, 1), 50);
        x.day();
        x.day();
        DUE.is("23: of the second day", x.dayOf(1, 1), 200);
        DUE.is("23: of the third day", x.dayOf(2, 1), 0);
    }

    private static void lastDay(AbbeyHours x) {
        x.monk(true, 0);
        x.gift(true, 1, true);
        x.store(9_999);
        Due.goBy(x, 1094);
        x.guests(4, 4);
    }

    private static void dayGoesUpTo1094() {
        // This lies behind the 512 calls for which an object answers; the class holds it there, too.
        AbbeyHours x = new AbbeyHours();
        Due.goBy(x, 1092);
        DUE.is("19: day() on day 1,092", x.day(), 1093);
        DUE.is("19: day() on day 1,093", x.day(), 1094);
        REFUSED.is("19: day() on day 1,094", DaysEdgesTest::lastDay, AbbeyHours::day, NONE);
        AbbeyHours y = new AbbeyHours();
        for (int day = 1; day <= 400; day++) {
            DUE.is("19: day()", y.day(), day);
            if (day % 4 == 0) {
                DUE.is("24: count(0)", y.count(0), day);
            }
        }
    }

    private static void dayOfDaysGoneBy() {
        for (int what = 0; what <= 4; what++) {
            int asked = what;
            AbbeyHours x = new AbbeyHours();
            Refusals.busy(x);
            DUE.holds("23: dayOf(0, " + what + ") is none", x.dayOf(0, what) != NONE);
            DUE.holds("23: dayOf(2, " + what + ") is none", x.dayOf(2, what) != NONE);
            REFUSED.outside("23: dayOf " + what + " of day", 0, 2, (y, day) -> y.dayOf(day, asked), NONE);
            REFUSED.is("23: dayOf " + what + " ahead of all days", Refusals::fresh, y -> y.dayOf(0, asked), NONE);
        }
        REFUSED.is("23: dayOf(1094, 0)", y -> y.dayOf(1094, 0), NONE);
    }

    private static void dayOfIs0To4() {
        REFUSED.outside("23: dayOf(0, ..)", 0, 4, (x, what) -> x.dayOf(0, what), NONE);
        REFUSED.outside("23: dayOf(2, ..)", 0, 4, (x, what) -> x.dayOf(2, what), NONE);
    }

    private static void foodAsFarAsTheStoreGoes() {
        int[] stores = {0, 1, 9, 10, 11};
        int[] used = {0, 1, 9, 10, 10};
        for (int i = 0; i < stores.length; i++) {
            AbbeyHours x = new AbbeyHours();
            x.monk(false, 0);
            x.guests(2, 1);
            x.store(stores[i]);
            x.day();
            DUE.is("23: used of " + stores[i], x.dayOf(0, 0), used[i]);
            DUE.is("23: lacking of " + stores[i], x.dayOf(0, 1), 10 - used[i]);
            DUE.is("24: left of " + stores[i], x.count(4), stores[i] - used[i]);
            x.day();
            DUE.is("23: what lacked isn't made good", x.dayOf(1, 0) + x.dayOf(1, 1), 2);
        }
    }

    private static void foodOfAllMonks() {
        AbbeyHours x = new AbbeyHours();
        for (int i = 0; i < 24; i++) {
            x.monk(i % 2 == 0, 15);
            x.away(i, 0, i % 3);
        }
        manyGuests(x);
        Due.takeRule(x, "feed 999; feed guest 999;");
        x.day();
        DUE.is("23: the dearest day", x.dayOf(0, 1), 223 * 999 + 250 + 50 + 98);
        x.day();
        DUE.is("23: without guests", x.dayOf(1, 1), 24 * 999);
    }

    private static void foodOfNobody() {
        AbbeyHours x = new AbbeyHours();
        x.store(5);
        x.day();
        DUE.is("23: used by nobody", x.dayOf(0, 0), 0);
        DUE.is("23: lacking of nobody", x.dayOf(0, 1), 0);
        DUE.is("24: the store stays", x.count(4), 5);
    }

    private static void foodByFeastAndFastInEachYear() {
        AbbeyHours x = new AbbeyHours();
        x.monk(false, 0);
        x.feast(1, 3);
        Due.takeRule(x, "fast from 1 to 2; feed fast 1; feed rank 3 50; feed 4;");
        Due.goBy(x, 369);
        int[] due = {4, 50, 1, 4};
        for (int y = 0; y < due.length; y++) {
            DUE.is("23: food of day " + y, x.dayOf(y, 1), due[y]);
            DUE.is("23: food of day " + (y + 365), x.dayOf(y + 365, 1), due[y]);
        }
    }

    /** The candles of day 0 with one bell late by m, and with office 2 moved out of its way. */
    private static int candles(int k, int m) {
        AbbeyHours x = new AbbeyHours();
        x.late(0, 2, 100);
        DUE.holds("9: late(0, " + k + ", " + m + ") was refused", x.late(0, k, m) != NONE);
        x.day();
        DUE.is("24: count(9) is that of the day", x.count(9), x.dayOf(0, 2));
        return x.dayOf(0, 2);
    }

    private static void candlesAheadOfSunrise() {
        // Office 1 begins at 407 and sunrise is at 467; offices 0 and 7 are wholly dark.
        int[] lates = {1, 29, 30, 31, 45, 58, 59, 60, 61, 90};
        int[] dark = {30, 30, 30, 29, 15, 2, 1, 0, 0, 0};
        for (int i = 0; i < lates.length; i++) {
            DUE.is("23: candles with office 1 late by " + lates[i], candles(1, lates[i]), 60 + dark[i]);
        }
        // Office 0 begins at 155 and stays dark however late it is.
        DUE.is("23: candles with office 0 late by 120", candles(0, 120), 90);
    }

    private static void candlesBehindSunset() {
        // Office 6 begins at 930 and sunset is at 973; offices 0, 1 and 7 are wholly dark.
        int[] lates = {1, 12, 13, 14, 15, 28, 42, 43, 44, 120};
        int[] dark = {0, 0, 0, 1, 2, 15, 29, 30, 30, 30};
        for (int i = 0; i < lates.length; i++) {
            DUE.is("23: candles with office 6 late by " + lates[i], candles(6, lates[i]), 90 + dark[i]);
        }
        DUE.is("23: candles with office 7 late by 120", candles(7, 120), 90);
        DUE.is("23: candles with office 5 late by 83", candles(5, 83), 90);
    }

    private static void candlesOfOneDayAlone() {
        AbbeyHours x = new AbbeyHours();
        x.late(1, 6, 60);
        x.late(366, 6, 60);
        Due.goBy(x, 3);
        int[] dark = {90, 120, 90};
        for (int day = 0; day < 3; day++) {
            DUE.is("23: candles of day " + day, x.dayOf(day, 2), dark[day]);
        }
        DUE.is("24: candles of all days", x.count(9), 300);
        DUE.is("9: too late to be late", x.late(2, 6, 60), NONE);
        DUE.is("23: candles of day 2 then", x.dayOf(2, 2), 90);
    }

    private static void candlesOverTheYearsEnd() {
        AbbeyHours x = new AbbeyHours();
        // Office 6 begins at 921, 920, 930 and 930, and sunset is at 962, 960, 972 and 973.
        int[] days = {354, 355, 364, 365};
        int[] dark = {14, 15, 13, 12};
        for (int day : days) {
            x.late(day, 6, 25);
        }
        Due.goBy(x, 367);
        for (int i = 0; i < days.length; i++) {
            DUE.is("23: candles of day " + days[i], x.dayOf(days[i], 2), 90 + dark[i]);
        }
        DUE.is("23: candles of day 366", x.dayOf(366, 2), 90);
        DUE.is("24: candles of 367 days", x.count(9), 367 * 90 + 54);
    }

    private static void figuresAreOfTheirDay() {
        AbbeyHours x = new AbbeyHours();
        x.monk(true, 0);
        x.gift(true, 0, true);
        x.store(3);
        Due.goBy(x, 3);
        int[][] due = {{2, 0, 90, 1, 1}, {1, 1, 90, 1, 0}, {0, 2, 90, 0, 0}};
        x.monk(true, 0);
        x.feast(0, 4);
        Due.takeRule(x, "feed 9;");
        x.store(50);
        for (int day = 0; day < 3; day++) {
            for (int what = 0; what <= 4; what++) {
                DUE.is("23: dayOf(" + day + ", " + what + ")", x.dayOf(day, what), due[day][what]);
            }
        }
    }
}
