/** Promise 13 at its edges, with FAST and FEED of the terms, a method for each sentence. */
public final class FastEdgesTest {
    private static final int NONE = AbbeyHours.NONE;
    private static final Due DUE = new Due();
    private static final Refusals REFUSED = new Refusals(DUE);

    public static void main(String[] args) {
        fastOfDays0To1094();
        fastIs0To3();
        withoutARule();
        inForceFromTodayOn();
        inForceTillTheNextOne();
        aFaultIsNotInForce();
        weekdaysThatAreTold();
        weekdaysThatAreNone();
        fromOneDayToAnother();
        onOneDay();
        beyondTheYearsEnd();
        beyondTheYearsEndUpToTheDayAhead();
        numbersBehindTheYear();
        unlessAFeastOfRank3IsHeld();
        theFirstThatIsTold();
        theLastOfEachKind();
        rankOfTheFeastHeld();
        rank0IsOfNoDay();
        zeroIsTold();
        guestsOfEachRank();
        DUE.end();
    }

    private static AbbeyHours under(String rule) {
        AbbeyHours x = new AbbeyHours();
        DUE.holds("11: '" + rule + "' wasn't taken", Due.takeRule(x, rule) >= 0);
        return x;
    }

    private static void fasts(String what, AbbeyHours x, int... days) {
        for (int day : days) {
            DUE.is("13: " + what + ": fast(" + day + ", 0)", x.fast(day, 0), 1);
        }
    }

    private static void noFasts(String what, AbbeyHours x, int... days) {
        for (int day : days) {
            DUE.is("13: " + what + ": fast(" + day + ", 0)", x.fast(day, 0), 0);
        }
    }

    private static void fastOfDays0To1094() {
        AbbeyHours x = under("fast from 0 to 364; feed fast 5; feed guest 6;");
        int[] due = {1, 5, 6, 0};
        for (int what = 0; what <= 3; what++) {
            int asked = what;
            DUE.is("13: fast(0, " + what + ")", x.fast(0, what), due[what]);
            DUE.is("13: fast(1094, " + what + ")", x.fast(1094, what), due[what]);
            REFUSED.outside("13: fast " + what + " of day", 0, 1094, (y, day) -> y.fast(day, asked), NONE);
        }
    }

    private static void fastIs0To3() {
        REFUSED.outside("13: fast(3, ..)", 0, 3, (x, what) -> x.fast(3, what), NONE);
    }

    private static void withoutARule() {
        AbbeyHours x = new AbbeyHours();
        x.feast(9, 4);
        int[] days = {0, 9, 364, 1094};
        int[] due = {0, 2, 3, NONE};
        for (int day : days) {
            for (int what = 0; what <= 3; what++) {
                DUE.is("13: no rule: fast(" + day + ", " + what + ")", x.fast(day, what), due[what]);
            }
        }
    }

    private static void inForceFromTodayOn() {
        AbbeyHours x = new AbbeyHours();
        Due.goBy(x, 5);
        Due.takeRule(x, "fast from 0 to 364; feed fast 7; feed guest 8;");
        int[] ahead = {0, 2, 3, NONE};
        int[] from = {1, 7, 8, 0};
        for (int what = 0; what <= 3; what++) {
            DUE.is("13: ahead of it: fast(0, " + what + ")", x.fast(0, what), ahead[what]);
            DUE.is("13: ahead of it: fast(4, " + what + ")", x.fast(4, what), ahead[what]);
            DUE.is("13: from it on: fast(5, " + what + ")", x.fast(5, what), from[what]);
            DUE.is("13: from it on: fast(1094, " + what + ")", x.fast(1094, what), from[what]);
        }
    }

    private static void inForceTillTheNextOne() {
        AbbeyHours x = under("feed 10;");
        Due.goBy(x, 3);
        Due.takeRule(x, "feed 11;");
        Due.goBy(x, 1);
        Due.takeRule(x, "feed 12;");
        Due.takeRule(x, "feed 13;");
        int[] number = {0, 0, 0, 1, 3, 3};
        for (int day = 0; day < number.length; day++) {
            DUE.is("13: fast(" + day + ", 3)", x.fast(day, 3), number[day]);
            DUE.is("13: fast(" + day + ", 1)", x.fast(day, 1), 10 + number[day]);
        }
        x.day();
        DUE.is("23: fed by the last of two of a day", x.dayOf(4, 1), 0);
        x.monk(false, 0);
        x.day();
        DUE.is("23: fed by it on the next day", x.dayOf(5, 1), 13);
    }

    private static void aFaultIsNotInForce() {
        AbbeyHours x = under("feed 10;");
        DUE.is("11: a fault", Due.takeRule(x, "feed 11; fast weekday 0; feed"), NONE);
        DUE.is("13: the rule ahead of it holds", x.fast(0, 1), 10);
        DUE.is("13: its number", x.fast(0, 3), 0);
        DUE.is("13: no fast", x.fast(0, 0), 0);
        DUE.is("11: the next number", Due.takeRule(x, "feed guest 4;"), 1);
        DUE.is("13: nothing of the fault", x.fast(0, 1), 2);
    }

    private static void weekdaysThatAreTold() {
        for (int weekday = 0; weekday <= 6; weekday++) {
            AbbeyHours x = under("fast weekday " + weekday + ";");
            for (int day = 358; day < 372; day++) {
                DUE.is("13: weekday " + weekday + ": fast(" + day + ", 0)", x.fast(day, 0),
                        day % 7 == weekday ? 1 : 0);
            }
        }
        // Day 364 is a weekday 0 and day 365 a weekday 1, though a day 0 of the year.
        fasts("weekday 0", under("fast weekday 0;"), 0, 7, 364, 1092);
        noFasts("weekday 0", under("fast weekday 0;"), 1, 6, 365, 1094);
        fasts("two weekdays", under("fast weekday 0; fast weekday 6;"), 0, 6, 7, 13);
        noFasts("two weekdays", under("fast weekday 0; fast weekday 6;"), 1, 5, 8);
    }

    private static void weekdaysThatAreNone() {
        AbbeyHours x = under("fast weekday 7; fast weekday 8; fast weekday 364; fast weekday 999;");
        noFasts("no such weekday", x, 0, 1, 2, 3, 4, 5, 6, 7, 8, 364, 999);
    }

    private static void fromOneDayToAnother() {
        AbbeyHours x = under("fast from 10 to 12;");
        fasts("10 to 12", x, 10, 11, 12, 375, 377, 740, 742);
        noFasts("10 to 12", x, 9, 13, 374, 378, 739, 743, 0, 364);
        fasts("0 to 364", under("fast from 0 to 364;"), 0, 1, 180, 364, 365, 729, 730, 1094);
        fasts("two spans", under("fast from 1 to 2; fast from 5 to 6;"), 1, 2, 5, 6);
        noFasts("two spans", under("fast from 1 to 2; fast from 5 to 6;"), 0, 3, 4, 7);
    }

    private static void onOneDay() {
        for (int day : new int[] {0, 50, 364}) {
            AbbeyHours x = under("fast from " + day + " to " + day + ";");
            fasts("on day " + day, x, day, day + 365);
            noFasts("on day " + day, x, (day + 1) % 365, (day + 364) % 365, (day + 180) % 365);
        }
    }

    private static void beyondTheYearsEnd() {
        AbbeyHours x = under("fast from 360 to 2;");
        fasts("360 to 2", x, 0, 1, 2, 360, 364, 365, 367, 725, 729, 730, 732, 1090, 1094);
        noFasts("360 to 2", x, 3, 359, 368, 724, 733, 1089, 180);
        AbbeyHours y = under("fast from 364 to 0;");
        fasts("364 to 0", y, 0, 364, 365, 729, 730, 1094);
        noFasts("364 to 0", y, 1, 363, 366, 728, 731, 1093);
    }

    private static void beyondTheYearsEndUpToTheDayAhead() {
        fasts("10 to 9", under("fast from 10 to 9;"), 0, 9, 10, 11, 364, 365, 374, 375);
        noFasts("10 to 8", under("fast from 10 to 8;"), 9, 374);
        fasts("10 to 8", under("fast from 10 to 8;"), 8, 10, 373, 375);
    }

    private static void numbersBehindTheYear() {
        AbbeyHours x = under("fast from 363 to 365;");
        fasts("363 to 365", x, 363, 364, 728, 729);
        noFasts("363 to 365", x, 0, 362, 365, 366);
        noFasts("365 to 999", under("fast from 365 to 999;"), 0, 1, 364, 365, 366, 999);
        fasts("999 to 0", under("fast from 999 to 0;"), 0, 365, 730);
        noFasts("999 to 0", under("fast from 999 to 0;"), 1, 364, 999);
    }

    private static void unlessAFeastOfRank3IsHeld() {
        AbbeyHours x = under("fast from 0 to 364; fast weekday 1; feed fast 1; feed 9;");
        for (int rank = 1; rank <= 4; rank++) {
            x.feast(10 * rank, rank);
        }
        fasts("rank 1 and 2", x, 10, 20, 375, 385);
        noFasts("rank 3 and 4", x, 30, 40, 395, 405);
        DUE.is("13: fed as on a fast", x.fast(20, 1), 1);
        DUE.is("13: fed as on no fast", x.fast(30, 1), 9);
        x.feast(40, 3);
        noFasts("rank 3, put off", x, 41);
        fasts("the day behind", x, 42);
        x.feast(364, 4);
        x.feast(364, 3);
        noFasts("on the last day", x, 364, 1094);
        fasts("put off behind it, and not held", x, 0, 365);
    }

    /** Every choice of what is told, on days of each kind. */
    private static void theFirstThatIsTold() {
        for (int told = 0; told < 8; told++) {
            boolean onFast = (told & 1) != 0;
            boolean byRank = (told & 2) != 0;
            boolean plain = (told & 4) != 0;
            AbbeyHours x = under("fast from 0 to 9;" + (plain ? "feed 30;" : "")
                    + (byRank ? "feed rank 2 20; feed rank 3 21;" : "") + (onFast ? "feed fast 10;" : ""));
            x.feast(1, 2);
            x.feast(2, 3);
            x.feast(11, 2);
            x.feast(12, 1);
            int least = plain ? 30 : 2;
            String of = "13: told " + told + ": feed on ";
            DUE.is(of + "a fast", x.fast(0, 1), onFast ? 10 : least);
            DUE.is(of + "a fast with a feast", x.fast(1, 1), onFast ? 10 : byRank ? 20 : least);
            DUE.is(of + "a feast above the fast", x.fast(2, 1), byRank ? 21 : least);
            DUE.is(of + "no feast", x.fast(10, 1), least);
            DUE.is(of + "a feast", x.fast(11, 1), byRank ? 20 : least);
            DUE.is(of + "a feast of another rank", x.fast(12, 1), least);
        }
    }

    private static void theLastOfEachKind() {
        AbbeyHours x = under("feed guest 1; feed fast 2; feed rank 2 3; feed 4; fast from 0 to 0;"
                + "feed guest 11; feed fast 12; feed rank 2 13; feed 14; feed rank 1 15;");
        x.feast(1, 2);
        DUE.is("13: the last feed fast", x.fast(0, 1), 12);
        DUE.is("13: the last feed rank 2", x.fast(1, 1), 13);
        DUE.is("13: the last feed", x.fast(2, 1), 14);
        DUE.is("13: the last feed guest", x.fast(2, 2), 11);
        AbbeyHours y = under("feed 14; feed 4;");
        DUE.is("13: the last, though it's less", y.fast(0, 1), 4);
    }

    private static void rankOfTheFeastHeld() {
        AbbeyHours x = under("feed rank 0 50; feed rank 1 51; feed rank 2 52; feed rank 3 53; feed rank 4 54;"
                + "feed rank 5 55;");
        for (int rank = 1; rank <= 4; rank++) {
            x.feast(10 * rank, rank);
            DUE.is("13: rank " + rank, x.fast(10 * rank, 1), 50 + rank);
            DUE.is("13: rank " + rank + " a year on", x.fast(10 * rank + 365, 1), 50 + rank);
        }
        DUE.is("13: none is held", x.fast(0, 1), 2);
        x.feast(40, 2);
        DUE.is("13: of the one held", x.fast(40, 1), 54);
        DUE.is("13: of the one put off", x.fast(41, 1), 52);
    }

    private static void rank0IsOfNoDay() {
        DUE.is("13: rank 0 alone", under("feed rank 0 50;").fast(0, 1), 2);
        DUE.is("13: rank 0 and guests", under("feed rank 0 50;").fast(0, 2), 3);
        DUE.is("13: rank 0 on a fast", under("fast from 0 to 0; feed rank 0 50;").fast(0, 1), 2);
        DUE.is("13: rank 0 behind feed fast", under("fast from 0 to 0; feed fast 9; feed rank 0 50;").fast(0, 1), 9);
        DUE.is("13: rank 0 behind feed guest", under("feed guest 9; feed rank 0 50;").fast(0, 2), 9);
        DUE.is("13: rank 0 behind feed", under("feed 9; feed rank 0 50;").fast(0, 1), 9);
    }

    private static void zeroIsTold() {
        AbbeyHours x = under("fast from 0 to 0; feed fast 0; feed rank 2 0; feed 0; feed guest 0;");
        x.feast(1, 2);
        for (int day = 0; day <= 2; day++) {
            DUE.is("13: feed of 0 on day " + day, x.fast(day, 1), 0);
            DUE.is("13: feed guest of 0 on day " + day, x.fast(day, 2), 0);
        }
    }

    private static void guestsOfEachRank() {
        for (int rank = 0; rank <= 5; rank++) {
            AbbeyHours x = new AbbeyHours();
            x.guests(2, rank);
            x.day();
            DUE.is("23: no rule, rank " + rank, x.dayOf(0, 1), 2 * (3 + rank));
            Due.takeRule(x, "fast from 0 to 364; feed fast 1; feed 50; feed guest 20;");
            DUE.is("13: of rank 0 alone", x.fast(1, 2), 20);
            x.guests(2, rank);
            x.day();
            DUE.is("23: feed guest, rank " + rank, x.dayOf(1, 1), 2 * (20 + rank));
        }
    }
}
