/** Promises 7, 8 and 9 at their edges, with LIGHT and OFFICES of the terms, a method for each sentence. */
public final class OfficesEdgesTest {
    private static final int NONE = AbbeyHours.NONE;
    private static final Due DUE = new Due();
    private static final Refusals REFUSED = new Refusals(DUE);

    public static void main(String[] args) {
        lightOfDays0To364();
        lightIs0To2();
        lightAboutDay355();
        lightAboutDay172();
        lightAboutTheYearsEnd();
        lightOfAllDays();
        officeOfDays0To1094();
        officesAre0To7();
        officesOfAllDays();
        lateBy1To120();
        lateNotAheadOfToday();
        lateUpToDay1094();
        lateOfOffices0To7();
        lateIsAheadOfTheNext();
        lateIsAheadOfTheNextAsItIsMoved();
        lateOfTheLastOffice();
        lateIsBehindTheOneAhead();
        lateInPlaceOfWhatWasTold();
        lateInItsPlaceIsNoBellMore();
        lateOnThatDayAlone();
        hundredLatesAtMost();
        DUE.end();
    }

    private static void lightOfDays0To364() {
        AbbeyHours x = new AbbeyHours();
        for (int what = 0; what <= 2; what++) {
            int asked = what;
            DUE.holds("7: light(0, " + what + ") is none", x.light(0, what) != NONE);
            DUE.holds("7: light(364, " + what + ") is none", x.light(364, what) != NONE);
            REFUSED.outside("7: light " + what + " of day", 0, 364, (y, day) -> y.light(day, asked), NONE);
        }
    }

    private static void lightIs0To2() {
        REFUSED.outside("7: light(0, ..)", 0, 2, (x, what) -> x.light(0, what), NONE);
        REFUSED.outside("7: light(364, ..)", 0, 2, (x, what) -> x.light(364, what), NONE);
    }

    private static void sun(int day, int light, int sunrise, int sunset) {
        AbbeyHours x = new AbbeyHours();
        DUE.is("7: light(" + day + ", 0)", x.light(day, 0), light);
        DUE.is("7: light(" + day + ", 1)", x.light(day, 1), sunrise);
        DUE.is("7: light(" + day + ", 2)", x.light(day, 2), sunset);
    }

    private static void lightAboutDay355() {
        // n is 364, 0 and 1.
        sun(354, 960 - 477, 479, 962);
        sun(355, 480, 480, 960);
        sun(356, 480 + 2, 479, 961);
    }

    private static void lightAboutDay172() {
        // n is 181, 182 and 183.
        sun(171, 480 + 477, 242, 1199);
        sun(172, 960, 240, 1200);
        sun(173, 960 - 2, 241, 1199);
        sun(174, 960 - 5, 243, 1198);
    }

    private static void lightAboutTheYearsEnd() {
        // n is 9 and 10.
        sun(364, 480 + 23, 469, 972);
        sun(0, 480 + 26, 467, 973);
    }

    private static int lightOf(int y) {
        int n = (y + 10) % 365;
        return n <= 182
                ? 480 + (int) Math.floor(n * 480 / 182.0)
                : 960 - (int) Math.floor((n - 182) * 480 / 183.0);
    }

    private static void lightOfAllDays() {
        for (int y = 0; y < 365; y++) {
            AbbeyHours x = new AbbeyHours();
            int sunrise = 720 - lightOf(y) / 2;
            DUE.is("7: light(" + y + ", 0)", x.light(y, 0), lightOf(y));
            DUE.is("7: light(" + y + ", 1)", x.light(y, 1), sunrise);
            DUE.is("7: light(" + y + ", 2)", x.light(y, 2), sunrise + lightOf(y));
        }
    }

    private static void officeOfDays0To1094() {
        AbbeyHours x = new AbbeyHours();
        DUE.is("8: office(0, 2)", x.office(0, 2), 467);
        DUE.is("8: office(1094, 2)", x.office(1094, 2), 469);
        REFUSED.outside("8: office 2 of day", 0, 1094, (y, day) -> y.office(day, 2), NONE);
    }

    private static void officesAre0To7() {
        AbbeyHours x = new AbbeyHours();
        DUE.is("8: office(355, 0)", x.office(355, 0), 160);
        DUE.is("8: office(355, 7)", x.office(355, 7), 1120);
        REFUSED.outside("8: office(5, ..)", 0, 7, (y, k) -> y.office(5, k), NONE);
    }

    private static void officesOfAllDays() {
        int[] twelfths = {0, 3, 6, 9, 11};
        for (int day = 0; day < 1095; day++) {
            AbbeyHours x = new AbbeyHours();
            int light = lightOf(day % 365);
            int sunrise = 720 - light / 2;
            int sunset = sunrise + light;
            DUE.is("8: office(" + day + ", 0)", x.office(day, 0), sunrise / 3);
            DUE.is("8: office(" + day + ", 1)", x.office(day, 1), sunrise - 60);
            for (int k = 2; k <= 6; k++) {
                DUE.is("8: office(" + day + ", " + k + ")", x.office(day, k),
                        sunrise + (int) Math.floor(light * twelfths[k - 2] / 12.0));
            }
            DUE.is("8: office(" + day + ", 7)", x.office(day, 7), sunset + (1440 - sunset) / 3);
        }
    }

    private static void lateBy1To120() {
        DUE.is("9: late(9, 4, 1)", new AbbeyHours().late(9, 4, 1), 721);
        DUE.is("9: late(9, 4, 120)", new AbbeyHours().late(9, 4, 120), 840);
        REFUSED.outside("9: late(9, 4, ..)", 1, 120, (x, m) -> x.late(9, 4, m), NONE);
        // A bell that was late stays so: 0 does not take it back.
        REFUSED.is("9: late(4, 2, 0)", Refusals::busy, x -> x.late(4, 2, 0), NONE);
    }

    private static void lateNotAheadOfToday() {
        DUE.is("9: late on day 0 on day 0", new AbbeyHours().late(0, 4, 5), 725);
        REFUSED.is("9: late on day -1 on day 0", x -> x.late(-1, 4, 5), NONE);
        REFUSED.is("9: late on day min", x -> x.late(Integer.MIN_VALUE, 4, 5), NONE);
        AbbeyHours busy = new AbbeyHours();
        Refusals.busy(busy);
        DUE.is("9: late on day 3 on day 3", busy.late(3, 4, 5), 725);
        REFUSED.is("9: late on day 2 on day 3", Refusals::busy, x -> x.late(2, 4, 5), NONE);
        REFUSED.is("9: late on day 0 on day 3", Refusals::busy, x -> x.late(0, 4, 5), NONE);
    }

    private static void lateUpToDay1094() {
        DUE.is("9: late on day 1,094", new AbbeyHours().late(1094, 4, 5), 725);
        REFUSED.is("9: late on day 1,095", x -> x.late(1095, 4, 5), NONE);
        REFUSED.is("9: late on day max", x -> x.late(Integer.MAX_VALUE, 4, 5), NONE);
    }

    private static void lateOfOffices0To7() {
        DUE.is("9: late(355, 0, 5)", new AbbeyHours().late(355, 0, 5), 165);
        DUE.is("9: late(355, 7, 5)", new AbbeyHours().late(355, 7, 5), 1125);
        REFUSED.outside("9: late of office", 0, 7, (x, k) -> x.late(9, k, 5), NONE);
    }

    /** Of an office the last minute that is taken and the first that is refused. */
    private static void edge(int day, int k, int most, int minute) {
        DUE.is("9: late(" + day + ", " + k + ", " + most + ")", new AbbeyHours().late(day, k, most), minute);
        REFUSED.is("9: at the next one's beginning: late(" + day + ", " + k + ", " + (most + 1) + ")",
                x -> x.late(day, k, most + 1), NONE);
        if (most + 2 <= 120) {
            REFUSED.is("9: behind the next one's beginning: late(" + day + ", " + k + ", " + (most + 2) + ")",
                    x -> x.late(day, k, most + 2), NONE);
        }
    }

    private static void lateIsAheadOfTheNext() {
        edge(172, 0, 99, 179);
        edge(5, 1, 59, 460);
        edge(355, 2, 119, 599);
        edge(355, 3, 119, 719);
        edge(355, 4, 119, 839);
        edge(355, 5, 79, 919);
        // Office 6 begins 160 minutes at least ahead of office 7, so no bell of it can be too late.
        DUE.is("9: late(172, 6, 120)", new AbbeyHours().late(172, 6, 120), 1240);
        DUE.is("9: late(355, 6, 120)", new AbbeyHours().late(355, 6, 120), 1040);
    }

    private static void secondIsLateBy30(AbbeyHours x) {
        x.late(5, 2, 30);
    }

    private static void lateIsAheadOfTheNextAsItIsMoved() {
        AbbeyHours x = new AbbeyHours();
        secondIsLateBy30(x);
        DUE.is("9: up to the moved one", x.late(5, 1, 89), 490);
        REFUSED.is("9: at the moved one", OfficesEdgesTest::secondIsLateBy30, y -> y.late(5, 1, 90), NONE);
        REFUSED.is("9: behind the moved one", OfficesEdgesTest::secondIsLateBy30, y -> y.late(5, 1, 91), NONE);
    }

    private static void lateOfTheLastOffice() {
        // Its latest minute of all days, 1,400: none comes to 1,410.
        DUE.is("9: late(172, 7, 120)", new AbbeyHours().late(172, 7, 120), 1400);
        REFUSED.is("9: late(172, 7, 121)", x -> x.late(172, 7, 121), NONE);
        for (int y = 0; y < 365; y++) {
            AbbeyHours x = new AbbeyHours();
            int bell = x.office(y, 7);
            DUE.is("9: late(" + y + ", 7, 120)", x.late(y, 7, 120), bell + 120);
        }
    }

    private static void firstAndSecondAreLate(AbbeyHours x) {
        x.late(5, 2, 60);
        x.late(5, 1, 70);
    }

    private static void lateIsBehindTheOneAhead() {
        // Office 1 begins at 471 now, and office 2 by itself at 461.
        AbbeyHours x = new AbbeyHours();
        firstAndSecondAreLate(x);
        DUE.is("9: behind the one ahead", x.late(5, 2, 11), 472);
        REFUSED.is("9: at the one ahead", OfficesEdgesTest::firstAndSecondAreLate, y -> y.late(5, 2, 10), NONE);
        REFUSED.is("9: ahead of the one ahead", OfficesEdgesTest::firstAndSecondAreLate,
                y -> y.late(5, 2, 9), NONE);
        REFUSED.is("9: far ahead of the one ahead", OfficesEdgesTest::firstAndSecondAreLate,
                y -> y.late(5, 2, 1), NONE);
    }

    private static void lateInPlaceOfWhatWasTold() {
        AbbeyHours x = new AbbeyHours();
        DUE.is("9: late(9, 4, 100)", x.late(9, 4, 100), 820);
        DUE.is("9: late(9, 4, 100) again", x.late(9, 4, 100), 820);
        DUE.is("9: less than what was told", x.late(9, 4, 1), 721);
        DUE.is("9: more than what was told", x.late(9, 4, 50), 770);
        DUE.is("8: the last one holds", x.office(9, 4), 770);
        DUE.is("9: refused", x.late(9, 4, 121), NONE);
        DUE.is("8: the last one holds still", x.office(9, 4), 770);
    }

    private static void lateInItsPlaceIsNoBellMore() {
        AbbeyHours x = new AbbeyHours();
        for (int m = 1; m <= 120; m++) {
            x.late(20, 4, m);
        }
        hundredLates(x);
        DUE.is("8: the 99th behind it is taken", x.office(17, 2), x.office(382, 2) + 2);
        DUE.is("8: the 100th behind it is not", x.office(17, 3), x.office(382, 3));
        DUE.is("8: it holds", x.office(20, 4), 840);
    }

    private static void lateOnThatDayAlone() {
        AbbeyHours x = new AbbeyHours();
        x.late(365, 4, 7);
        int[] days = {0, 364, 366, 730};
        for (int day : days) {
            DUE.is("9: office(" + day + ", 4)", x.office(day, 4), 720);
        }
        DUE.is("9: office(365, 4)", x.office(365, 4), 727);
        DUE.is("9: office(365, 3)", x.office(365, 3), 593);
        DUE.is("9: office(365, 5)", x.office(365, 5), 846);
    }

    private static void hundredLates(AbbeyHours x) {
        for (int i = 0; i < 100; i++) {
            x.late(5 + i / 8, i % 8, 2);
        }
    }

    private static void hundredLatesAtMost() {
        AbbeyHours x = new AbbeyHours();
        for (int i = 0; i < 100; i++) {
            DUE.is("9: bell " + i, x.late(5 + i / 8, i % 8, 2), x.office(370 + i / 8, i % 8) + 2);
        }
        DUE.is("8: the 100th", x.office(17, 3), x.office(382, 3) + 2);
        REFUSED.is("9: the 101st", OfficesEdgesTest::hundredLates, y -> y.late(172, 4, 9), NONE);
        REFUSED.is("9: the 101st, on a day with others", OfficesEdgesTest::hundredLates,
                y -> y.late(17, 4, 9), NONE);
        // The document refuses whenever 100 are told, so in their place, too.
        REFUSED.is("9: one of the hundred anew", OfficesEdgesTest::hundredLates, y -> y.late(5, 4, 3), NONE);
    }
}
