/** Where several parts of the document meet on one day; the numbers due are worked out by hand. */
public final class MeetingsTest {
    private static final int NONE = AbbeyHours.NONE;
    private static final Due DUE = new Due();

    public static void main(String[] args) {
        feastPutOffOntoAFast();
        feastToldBehindItsDay();
        fastBeyondTheYearsEnd();
        feastOfTheNextYear();
        lateBellAndCandles();
        lateBellAndTheNextYear();
        ruleBehindADayGoneBy();
        faultyRuleAndFood();
        giftWithLeaveOnItsDay();
        giftWithLeaveAndNoPriest();
        failAndTheTurnsBehindIt();
        failAndTheRestOfTheDay();
        awayOnADayOfEverything();
        DUE.end();
    }

    private static void fasts(String of, AbbeyHours x, int day, int... due) {
        for (int what = 0; what < due.length; what++) {
            DUE.is("13: " + of + ": fast(" + day + ", " + what + ")", x.fast(day, what), due[what]);
        }
    }

    private static void gone(String of, AbbeyHours x, int day, int... due) {
        for (int what = 0; what < due.length; what++) {
            DUE.is("23: " + of + ": dayOf(" + day + ", " + what + ")", x.dayOf(day, what), due[what]);
        }
    }

    private static void duties(String of, AbbeyHours x, int day, int... due) {
        for (int duty = 0; duty < due.length; duty++) {
            DUE.is("20: " + of + ": turn(" + day + ", " + duty + ")", x.turn(day, duty), due[duty]);
        }
    }

    private static void masses(String of, AbbeyHours x, int gift, int... due) {
        for (int what = 0; what < due.length; what++) {
            DUE.is("16: " + of + ": giftOf(" + gift + ", " + what + ")", x.giftOf(gift, what), due[what]);
        }
    }

    private static AbbeyHours withMonks(int... bars) {
        AbbeyHours x = new AbbeyHours();
        for (int b : bars) {
            x.monk(true, b);
        }
        return x;
    }

    private static void feastPutOffOntoAFast() {
        AbbeyHours x = withMonks(0, 0);
        x.store(1000);
        Due.takeRule(x, "fast from 2 to 6; feed fast 1; feed rank 2 20; feed rank 3 30; feed rank 4 40; feed 5;");
        x.feast(1, 4);
        x.feast(1, 3);
        x.feast(1, 2);
        x.feast(1, 1);
        // Held: rank 4 on day 1, rank 3 on day 2, where it ends the fast, rank 2 on day 3, where it doesn't.
        DUE.is("6: when(1)", x.when(1), 2);
        DUE.is("6: when(2)", x.when(2), 3);
        DUE.is("6: when(3)", x.when(3), NONE);
        fasts("no fast", x, 1, 0, 40);
        fasts("rank 3 put off onto a fast", x, 2, 0, 30);
        fasts("rank 2 put off onto a fast", x, 3, 1, 1);
        fasts("behind them", x, 4, 1, 1);
        // A feast of rank 1 falls where rank 2 is put off to: it gives way and is not held.
        x.feast(3, 1);
        DUE.is("6: when(4)", x.when(4), NONE);
        fasts("rank 1 gave way", x, 3, 1, 1);
        // One of rank 3 falls there: rank 2 goes on by a day.
        x.feast(3, 3);
        DUE.is("5: held(3)", x.held(3), 5);
        DUE.is("5: held(4)", x.held(4), 2);
        fasts("rank 3 fell on it", x, 3, 0, 30);
        fasts("rank 2 went on", x, 4, 1, 1);
        Due.goBy(x, 8);
        gone("ahead of them", x, 0, 10, 0);
        gone("rank 4", x, 1, 80, 0);
        gone("rank 3, put off", x, 2, 60, 0);
        gone("rank 3, fallen", x, 3, 60, 0);
        gone("rank 2 on a fast", x, 4, 2, 0);
        gone("the fast's last day", x, 6, 2, 0);
        gone("behind the fast", x, 7, 10, 0);
        DUE.is("24: count(4)", x.count(4), 1000 - 10 - 80 - 60 - 60 - 3 * 2 - 10);
    }

    private static void feastToldBehindItsDay() {
        AbbeyHours x = withMonks(0);
        Due.takeRule(x, "fast from 0 to 9; feed fast 1; feed rank 3 30; feed rank 4 40;");
        Due.goBy(x, 2);
        DUE.is("4: a feast on day 1", x.feast(1, 3), 0);
        fasts("told, though it went by", x, 1, 0, 30);
        gone("what was eaten stays", x, 1, 0, 1);
        x.feast(1, 4);
        fasts("put off onto today", x, 2, 0, 30);
        x.day();
        gone("put off onto today", x, 2, 0, 30);
        fasts("a year later", x, 366, 0, 40);
        fasts("a year later", x, 367, 0, 30);
        fasts("a year later", x, 368, 1, 1);
    }

    private static void fastBeyondTheYearsEnd() {
        AbbeyHours x = withMonks(0);
        x.feast(364, 4);
        x.feast(364, 3);
        x.feast(0, 2);
        Due.takeRule(x, "fast from 363 to 1; feed fast 7; feed rank 2 20; feed rank 4 40; feed 3;");
        // The feast of rank 3 is put off behind day 364: it is not held on day 0 or ever.
        DUE.is("6: when(1)", x.when(1), NONE);
        fasts("on its first day", x, 363, 1, 7);
        fasts("rank 4 on the year's last day", x, 364, 0, 40);
        fasts("rank 2 on the year's first day", x, 365, 1, 7);
        fasts("on its last day", x, 366, 1, 7);
        fasts("behind it", x, 367, 0, 3);
        Due.goBy(x, 368);
        gone("day 0", x, 0, 0, 7);
        gone("day 1", x, 1, 0, 7);
        gone("day 2", x, 2, 0, 3);
        gone("day 362", x, 362, 0, 3);
        gone("day 363", x, 363, 0, 7);
        gone("day 364", x, 364, 0, 40);
        gone("day 365", x, 365, 0, 7);
        gone("day 366", x, 366, 0, 7);
        gone("day 367", x, 367, 0, 3);
    }

    private static void feastOfTheNextYear() {
        AbbeyHours x = withMonks(0, 0);
        x.feast(2, 1);
        x.gift(false, 2, true);
        x.gift(true, 2, false);
        Due.takeRule(x, "fast weekday 2; feed rank 1 50; feed 4;");
        Due.goBy(x, 369);
        gone("a fast without feed fast: its rank's", x, 2, 0, 100, 90, 2, 1);
        // Day 366 is weekday 2 and has no feast, day 367 is weekday 3 and has one.
        gone("day 366", x, 366, 0, 8, 90, 1, 0);
        gone("day 367", x, 367, 0, 100, 90, 2, 0);
        gone("day 368", x, 368, 0, 8, 90, 0, 0);
        masses("twice two", x, 0, 0, 4, 0);
        masses("53 weekdays 2 up to day 368", x, 1, 0, 53, 0);
    }

    private static void lateBellAndCandles() {
        AbbeyHours x = new AbbeyHours();
        // Day 0: SUNRISE 467, SUNSET 973; offices at 155, 407, 467, 593, 720, 846, 930, 1128.
        DUE.is("9: late(0, 1, 55)", x.late(0, 1, 55), 462);
        DUE.is("9: late(0, 1, 31), in its place", x.late(0, 1, 31), 438);
        DUE.is("9: late(0, 6, 14)", x.late(0, 6, 14), 944);
        DUE.is("9: late(0, 7, 120)", x.late(0, 7, 120), 1248);
        DUE.is("9: late(0, 0, 120)", x.late(0, 0, 120), 275);
        x.day();
        // 1 has its minutes 438 to 466 in the dark, and 6 its minute 973.
        gone("late bells", x, 0, 0, 0, 30 + 29 + 1 + 30);
        DUE.is("8: it stays told", x.office(0, 1), 438);
        DUE.is("9: late(0, 1, 1), the day went by", x.late(0, 1, 1), NONE);
        // Day 1: LIGHT 509, SUNRISE 466, SUNSET 975; the bell of 6 at 466 + 466 = 932.
        DUE.is("9: late(1, 6, 43)", x.late(1, 6, 43), 975);
        DUE.is("9: late(1, 1, 60)", x.late(1, 1, 60), NONE);
        DUE.is("9: late(1, 2, 1)", x.late(1, 2, 1), 467);
        DUE.is("9: late(1, 1, 60), room is made", x.late(1, 1, 60), 466);
        DUE.is("9: late(1, 2, 1), as it is", x.late(1, 2, 1), 467);
        x.day();
        gone("at SUNRISE and at SUNSET", x, 1, 0, 0, 30 + 0 + 30 + 30);
        DUE.is("24: count(9)", x.count(9), 90 + 90);
    }

    private static void lateBellAndTheNextYear() {
        AbbeyHours x = new AbbeyHours();
        DUE.is("9: late(365, 1, 40)", x.late(365, 1, 40), 447);
        DUE.is("9: late(0, 6, 30)", x.late(0, 6, 30), 960);
        DUE.is("8: office(0, 1)", x.office(0, 1), 407);
        DUE.is("8: office(365, 6)", x.office(365, 6), 930);
        DUE.is("8: office(730, 1)", x.office(730, 1), 407);
        Due.goBy(x, 366);
        gone("17 minutes more", x, 0, 0, 0, 107);
        gone("no bell is late", x, 364, 0, 0, 90);
        gone("10 minutes fewer", x, 365, 0, 0, 80);
    }

    private static void ruleBehindADayGoneBy() {
        AbbeyHours x = withMonks(0, 0, 0);
        x.guests(2, 1);
        x.day();
        Due.takeRule(x, "fast from 0 to 2; feed fast 1; feed guest 10;");
        fasts("no rule was in force then", x, 0, 0, 2, 3, NONE);
        fasts("the first from its day on", x, 1, 1, 1, 10, 0);
        x.guests(2, 1);
        x.day();
        x.guests(2, 1);
        // The day isn't over: what was in force when its guests came doesn't matter.
        Due.takeRule(x, "feed 6; feed guest 4;");
        Due.takeRule(x, "feed 7; feed guest 5;");
        x.day();
        gone("no rule", x, 0, 0, 3 * 2 + 2 * 4);
        gone("the first", x, 1, 0, 3 + 2 * 11);
        gone("the last of the day's", x, 2, 0, 3 * 7 + 2 * 6);
        fasts("as it was", x, 0, 0, 2, 3, NONE);
        fasts("as it was", x, 1, 1, 1, 10, 0);
        fasts("never for a whole day", x, 2, 0, 7, 5, 2);
        fasts("a year later, by the last", x, 366, 0, 7, 5, 2);
    }

    private static void faultyRuleAndFood() {
        AbbeyHours x = withMonks(0);
        Due.takeRule(x, "feed 6;");
        x.day();
        DUE.is("11: a fault", Due.takeRule(x, "feed 9; fast from 1 to;"), NONE);
        DUE.is("12: its place", x.fault(), 22);
        fasts("the first is still in force", x, 1, 0, 6, 3, 0);
        x.day();
        gone("by the first", x, 1, 0, 6);
        DUE.is("11: the next number", Due.takeRule(x, ""), 1);
        DUE.is("12: no fault", x.fault(), NONE);
        fasts("an empty rule tells nothing", x, 2, 0, 2, 3, 1);
        x.day();
        gone("by the empty one", x, 2, 0, 2);
    }

    private static void giftWithLeaveOnItsDay() {
        AbbeyHours x = withMonks(0);
        x.gift(true, 0, true);
        x.gift(true, 0, false);
        x.gift(false, 7, true);
        x.leave(0, 7, 7);
        x.leave(2, 7, 7);
        x.leave(1, 6, 6);
        x.day();
        // Of 2 and 1 owed the priest says one of gift 0; of 1 and 1 on day 1 again, then the last.
        gone("day 0", x, 0, 0, 2, 90, 1, 2);
        Due.goBy(x, 6);
        gone("day 2", x, 2, 0, 2, 90, 1, 0);
        gone("day 3", x, 3, 0, 2, 90, 0, 0);
        x.day();
        gone("leave of two gifts", x, 7, 0, 2, 90, 1, 0);
        masses("leave on day 7", x, 0, 0, 2, 2);
        masses("leave on day 6, which isn't its own", x, 1, 0, 2, 0);
        masses("leave on its day", x, 2, 0, 0, 2);
        DUE.is("15: leave for day 7, which went by", x.leave(1, 0, 7), 4);
        masses("it changes nothing", x, 1, 0, 2, 0);
        Due.goBy(x, 7);
        masses("owed again", x, 0, 1, 3, 2);
        DUE.is("24: count(7)", x.count(7), 2);
        DUE.is("24: count(8)", x.count(8), 5);
    }

    private static void giftWithLeaveAndNoPriest() {
        AbbeyHours x = withMonks(0);
        x.gift(true, 0, true);
        x.leave(0, 7, 13);
        x.away(0, 0, 8);
        Due.goBy(x, 8);
        // What was owed ahead of the LEAVE stays owed, and is said on days of LEAVE.
        masses("nobody could", x, 0, 2, 0, 2);
        gone("nobody could", x, 7, 0, 2, 90, 0, 2);
        Due.goBy(x, 2);
        gone("back on day 9", x, 9, 0, 2, 90, 1, 1);
        masses("one said, with leave", x, 0, 1, 1, 2);
    }

    private static void failAndTheTurnsBehindIt() {
        AbbeyHours x = withMonks(14, 14, 14);
        x.day();
        DUE.is("22: fail(0)", x.fail(0), 1);
        x.day();
        // TURNS are 0, 1, 0: whoever failed is the next one.
        duties("who failed comes first again", x, 1, 0, NONE, NONE, NONE);
        DUE.is("22: fail(0) on day 1", x.fail(0), 2);
        DUE.is("22: fail(0), of 0 and 1 turns", x.fail(0), 0);
        x.day();
        duties("one turn each but 2", x, 2, 2, NONE, NONE, NONE);
        for (int monk = 0; monk < 3; monk++) {
            DUE.is("21: turns(" + monk + ", 0)", x.turns(monk, 0), 1);
            DUE.is("21: turns(" + monk + ", 4)", x.turns(monk, 4), 1);
        }
        x.away(1, 3, 3);
        x.day();
        duties("1 is away", x, 3, 0, NONE, NONE, NONE);
        DUE.is("22: fail(0), 1 was away", x.fail(0), 2);
        DUE.is("21: turns(0, 0)", x.turns(0, 0), 1);
        DUE.is("21: turns(2, 0)", x.turns(2, 0), 2);
        x.day();
        duties("of 1, 1 and 2 turns", x, 4, 0, NONE, NONE, NONE);
        duties("the days ahead of it stay", x, 0, 1, NONE, NONE, NONE);
        duties("the days ahead of it stay", x, 1, 0, NONE, NONE, NONE);
        duties("the days ahead of it stay", x, 3, 2, NONE, NONE, NONE);
    }

    private static void failAndTheRestOfTheDay() {
        AbbeyHours x = withMonks(0, 0, 13);
        x.gift(true, 0, true);
        x.store(5);
        x.day();
        duties("three monks", x, 0, 0, 1, NONE, NONE);
        DUE.is("22: fail(1)", x.fail(1), 2);
        DUE.is("22: fail(0), by who failed at 1", x.fail(0), 1);
        DUE.is("22: fail(1), 0 is free then", x.fail(1), 0);
        DUE.is("22: fail(1), 2 once more", x.fail(1), 2);
        duties("all of it", x, 0, 1, 2, NONE, NONE);
        DUE.is("22: fail(2), nobody had it", x.fail(2), -2);
        gone("food, candles and masses stay", x, 0, 5, 1, 90, 2, 0);
        x.day();
        // TURNS of duty 0: 0, 1, 0; of duty 1: 0, 0, 1.
        duties("the day behind", x, 1, 0, 1, NONE, NONE);
    }

    private static void awayOnADayOfEverything() {
        AbbeyHours x = withMonks(0, 0);
        x.monk(false, 0);
        x.feast(1, 4);
        x.gift(true, 1, true);
        x.away(0, 1, 1);
        x.store(100);
        Due.takeRule(x, "fast weekday 1; feed fast 1; feed rank 4 9; feed 3; feed guest 6;");
        x.day();
        x.late(1, 1, 50);
        x.guests(3, 5);
        x.day();
        duties("without the one away", x, 1, 1, 2, NONE, NONE);
        // Food: 9 at the day of the feast, he that is away too; the office at 456 has ten dark minutes.
        gone("all of it", x, 1, 27 + 33, 0, 70, 1, 1);
        DUE.is("24: count(4)", x.count(4), 100 - 9 - 60);
        DUE.is("24: count(5)", x.count(5), 0);
        DUE.is("24: count(7)", x.count(7), 1);
        DUE.is("24: count(9)", x.count(9), 160);
    }
}
