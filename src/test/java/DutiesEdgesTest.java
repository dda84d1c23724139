/** Promises 20, 21 and 22 at their edges, with DUTIES of the terms, a method for each sentence. */
public final class DutiesEdgesTest {
    private static final int NONE = AbbeyHours.NONE;
    private static final Due DUE = new Due();
    private static final Refusals REFUSED = new Refusals(DUE);

    public static void main(String[] args) {
        turnOfDaysGoneBy();
        turnOfDuties0To3();
        turnOfNobody();
        turnsOfMonksWhoAreThere();
        turnsOfDuties0To4();
        oneDutyADay();
        fewestTurnsOfThatDutyAlone();
        ofSeveralTheLeast();
        failAheadOfAllDays();
        failOfDuties0To3();
        failOfADutyThatNobodyHad();
        failIsOfTheLastDayAlone();
        failWithNobodyElse();
        oneWhoWasAwayDoesNotStepIn();
        oneWhoIsBarredDoesNotStepIn();
        oneWithADutyDoesNotStepIn();
        oneWhoCameLaterDoesNotStepIn();
        fewestTurnsStepsIn();
        ofSeveralTheLeastStepsIn();
        whoFailedHasOneTurnLess();
        whoFailedIsFreeForAnotherDuty();
        turnsBehindAFailTellWhoIsNext();
        DUE.end();
    }

    private static AbbeyHours with(int... bars) {
        AbbeyHours x = new AbbeyHours();
        for (int b : bars) {
            x.monk(false, b);
        }
        return x;
    }

    private static void turn(String what, AbbeyHours x, int day, int... due) {
        for (int duty = 0; duty < due.length; duty++) {
            DUE.is("20: " + what + ": turn(" + day + ", " + duty + ")", x.turn(day, duty), due[duty]);
        }
    }

    private static void turnOfDaysGoneBy() {
        AbbeyHours x = with(0);
        DUE.is("20: turn(0, 0) on day 0", x.turn(0, 0), NONE);
        x.day();
        DUE.is("20: turn(0, 0) on day 1", x.turn(0, 0), 0);
        DUE.is("20: turn(1, 0) on day 1", x.turn(1, 0), NONE);
        REFUSED.outside("20: duty 0 on day", 0, 2, (y, day) -> y.turn(day, 0), NONE);
        REFUSED.is("20: turn(1094, 0)", y -> y.turn(1094, 0), NONE);
    }

    private static void turnOfDuties0To3() {
        turn("four monks", dayOf(with(0, 0, 0, 0)), 0, 0, 1, 2, 3);
        REFUSED.outside("20: turn(0, ..)", 0, 3, (x, duty) -> x.turn(0, duty), NONE);
        REFUSED.outside("20: turn(2, ..)", 0, 3, (x, duty) -> x.turn(2, duty), NONE);
    }

    private static AbbeyHours dayOf(AbbeyHours x) {
        x.day();
        return x;
    }

    private static void turnOfNobody() {
        turn("no monks", dayOf(with()), 0, NONE, NONE, NONE, NONE);
        turn("all barred", dayOf(with(15, 15, 15, 15)), 0, NONE, NONE, NONE, NONE);
        AbbeyHours x = with(0);
        x.away(0, 0, 0);
        turn("all away", dayOf(x), 0, NONE, NONE, NONE, NONE);
        turn("one monk", dayOf(x), 1, 0, NONE, NONE, NONE);
    }

    private static void turnsOfMonksWhoAreThere() {
        AbbeyHours x = with(0);
        for (int duty = 0; duty <= 4; duty++) {
            int asked = duty;
            DUE.is("21: turns(0, " + duty + ") ahead of all days", x.turns(0, duty), 0);
            REFUSED.outside("21: turns of duty " + duty + " of monk", 0, 4, (y, monk) -> y.turns(monk, asked), NONE);
            REFUSED.is("21: turns of nobody", Refusals::fresh, y -> y.turns(0, asked), NONE);
        }
        AbbeyHours full = new AbbeyHours();
        for (int i = 0; i < 24; i++) {
            full.monk(false, i < 23 ? 15 : 0);
        }
        full.day();
        DUE.is("21: turns(23, 0)", full.turns(23, 0), 1);
        DUE.is("21: turns(24, 0)", full.turns(24, 0), NONE);
    }

    private static void turnsOfDuties0To4() {
        AbbeyHours x = with(14, 13, 11, 7);
        Due.goBy(x, 3);
        for (int monk = 0; monk < 4; monk++) {
            for (int duty = 0; duty <= 4; duty++) {
                DUE.is("21: turns(" + monk + ", " + duty + ")", x.turns(monk, duty),
                        duty == monk || duty == 4 ? 3 : 0);
            }
        }
        REFUSED.outside("21: turns(0, ..)", 0, 4, (y, duty) -> y.turns(0, duty), NONE);
    }

    private static void oneDutyADay() {
        AbbeyHours x = with(0);
        Due.goBy(x, 3);
        for (int day = 0; day < 3; day++) {
            turn("one monk", x, day, 0, NONE, NONE, NONE);
        }
        DUE.is("21: turns(0, 4)", x.turns(0, 4), 3);
        turn("two monks", dayOf(with(0, 0)), 0, 0, 1, NONE, NONE);
    }

    private static void fewestTurnsOfThatDutyAlone() {
        // Monk 0 has had duty 0 twice, and of duty 1 no turn: so it's ahead of monk 1 in duty 1.
        AbbeyHours x = with(0, 13);
        x.away(1, 0, 1);
        Due.goBy(x, 2);
        x.monk(false, 14);
        x.day();
        turn("three monks", x, 2, 2, 0, NONE, NONE);
    }

    private static void ofSeveralTheLeast() {
        AbbeyHours x = with(14, 14, 14);
        int[] holder = {0, 1, 2, 0, 1, 2};
        Due.goBy(x, holder.length);
        for (int day = 0; day < holder.length; day++) {
            turn("one after the other", x, day, holder[day]);
        }
    }

    private static void failAheadOfAllDays() {
        for (int duty = 0; duty < 4; duty++) {
            int asked = duty;
            REFUSED.is("22: fail(" + duty + ") on day 0", x -> {
                for (int i = 0; i < 5; i++) {
                    x.monk(false, 0);
                }
            }, x -> x.fail(asked), -2);
        }
        REFUSED.is("22: fail(0) on a new object", Refusals::fresh, x -> x.fail(0), -2);
    }

    private static void failOfDuties0To3() {
        for (int duty = 0; duty < 4; duty++) {
            AbbeyHours x = dayOf(with(0, 0, 0, 0, 0));
            DUE.is("22: fail(" + duty + ")", x.fail(duty), 4);
            for (int other = 0; other < 4; other++) {
                DUE.is("20: behind fail(" + duty + "): turn(0, " + other + ")", x.turn(0, other),
                        other == duty ? 4 : other);
            }
        }
        REFUSED.outside("22: fail", 0, 3, AbbeyHours::fail, -2);
    }

    private static void twoMonksOnDay1(AbbeyHours x) {
        x.monk(false, 0);
        x.monk(false, 0);
        x.day();
    }

    private static void failOfADutyThatNobodyHad() {
        REFUSED.is("22: fail(2)", DutiesEdgesTest::twoMonksOnDay1, x -> x.fail(2), -2);
        REFUSED.is("22: fail(3)", DutiesEdgesTest::twoMonksOnDay1, x -> x.fail(3), -2);
        REFUSED.is("22: fail(0) behind one that left nobody", x -> {
            twoMonksOnDay1(x);
            x.fail(0);
        }, x -> x.fail(0), -2);
        REFUSED.is("22: fail(2), though one came later", x -> {
            twoMonksOnDay1(x);
            x.monk(false, 0);
        }, x -> x.fail(2), -2);
    }

    private static void failIsOfTheLastDayAlone() {
        AbbeyHours x = with(14, 14, 14);
        Due.goBy(x, 2);
        turn("two days", x, 0, 0);
        turn("two days", x, 1, 1);
        DUE.is("22: fail(0)", x.fail(0), 2);
        turn("behind it", x, 0, 0);
        turn("behind it", x, 1, 2);
        AbbeyHours y = with(14);
        y.day();
        y.away(0, 1, 1);
        y.day();
        DUE.is("22: nobody had it on the last day", y.fail(0), -2);
        turn("and the day ahead stays", y, 0, 0);
    }

    private static void failWithNobodyElse() {
        AbbeyHours x = dayOf(with(0));
        DUE.is("22: fail(0)", x.fail(0), NONE);
        turn("nobody has it then", x, 0, NONE, NONE, NONE, NONE);
        DUE.is("21: turns(0, 0)", x.turns(0, 0), 0);
        DUE.is("21: turns(0, 4)", x.turns(0, 4), 0);
        DUE.is("22: fail(0) again", x.fail(0), -2);
        x.day();
        turn("on the next day", x, 1, 0, NONE, NONE, NONE);
    }

    private static void oneWhoWasAwayDoesNotStepIn() {
        AbbeyHours x = with(14, 14);
        x.away(1, 0, 0);
        x.day();
        DUE.is("22: fail(0), the other was away", x.fail(0), NONE);
        // Away on the days about it, but not on it.
        AbbeyHours y = with(14, 14);
        y.away(1, 0, 0);
        y.away(1, 2, 3);
        Due.goBy(y, 2);
        turn("monk 1 has no turn yet", y, 1, 1);
        DUE.is("22: fail(0), back to the first", y.fail(0), 0);
        DUE.is("22: fail(0), able on that day", y.fail(0), 1);
        // Told away from the next day on only when the day has gone by.
        AbbeyHours z = dayOf(with(14, 14));
        z.away(1, 1, 9);
        DUE.is("22: fail(0), away from the next day on", z.fail(0), 1);
    }

    private static void oneWhoIsBarredDoesNotStepIn() {
        for (int duty = 0; duty < 4; duty++) {
            AbbeyHours x = dayOf(with(15 - (1 << duty), 1 << duty, 15));
            DUE.is("22: fail(" + duty + "), the others are barred", x.fail(duty), NONE);
            AbbeyHours y = dayOf(with(15 - (1 << duty), 15, 15 - (1 << duty)));
            DUE.is("22: fail(" + duty + "), the last is not barred", y.fail(duty), 2);
        }
    }

    private static void oneWithADutyDoesNotStepIn() {
        AbbeyHours x = dayOf(with(0, 0, 0, 0));
        for (int duty = 0; duty < 4; duty++) {
            AbbeyHours y = dayOf(with(0, 0, 0, 0));
            DUE.is("22: fail(" + duty + "), all have a duty", y.fail(duty), NONE);
        }
        DUE.is("22: fail(0)", x.fail(0), NONE);
        DUE.is("22: fail(3), by who has none now", x.fail(3), 0);
        turn("then", x, 0, NONE, 1, 2, 0);
    }

    private static void oneWhoCameLaterDoesNotStepIn() {
        AbbeyHours x = dayOf(with(0));
        x.monk(false, 0);
        DUE.is("22: fail(0), the other came later", x.fail(0), NONE);
        AbbeyHours y = dayOf(with(14));
        y.monk(false, 14);
        y.day();
        turn("the one who came has the fewest turns", y, 1, 1);
        DUE.is("22: fail(0), back to the first", y.fail(0), 0);
        DUE.is("22: fail(0), by who came on that day", y.fail(0), 1);
    }

    private static void fewestTurnsStepsIn() {
        // Turns of duty 0 behind five days: 2, 1, 1 and 1, day 4 being that of monk 0.
        AbbeyHours x = with(14, 14, 14, 14);
        Due.goBy(x, 5);
        x.fail(0);
        DUE.is("21: monk 1 stepped in", x.turns(1, 0), 2);
        DUE.is("22: the fewest turns, the least of them who is free", x.fail(0), 0);
        AbbeyHours y = with(14, 14, 14);
        y.away(2, 0, 3);
        Due.goBy(y, 5);
        turn("monk 2 on its first day", y, 4, 2);
        y.away(2, 5, 5);
        Due.goBy(y, 2);
        // Turns: monk 0 three, monk 1 two, monk 2 two, who has day 6.
        turn("by turns", y, 5, 0);
        turn("by turns", y, 6, 2);
        DUE.is("22: the fewest turns and not the least number", y.fail(0), 1);
    }

    private static void ofSeveralTheLeastStepsIn() {
        AbbeyHours x = dayOf(with(14, 15, 14, 14));
        DUE.is("22: fail(0), the least of two", x.fail(0), 2);
        DUE.is("22: fail(0), the one who failed first", x.fail(0), 0);
        DUE.is("22: fail(0), round again", x.fail(0), 2);
    }

    private static void whoFailedHasOneTurnLess() {
        AbbeyHours x = with(14, 14);
        Due.goBy(x, 3);
        DUE.is("21: turns(0, 0)", x.turns(0, 0), 2);
        DUE.is("22: fail(0)", x.fail(0), 1);
        DUE.is("21: turns(0, 0) then", x.turns(0, 0), 1);
        DUE.is("21: turns(0, 4) then", x.turns(0, 4), 1);
        DUE.is("21: turns(1, 0) then", x.turns(1, 0), 2);
        DUE.is("21: turns(1, 4) then", x.turns(1, 4), 2);
    }

    private static void whoFailedIsFreeForAnotherDuty() {
        AbbeyHours x = dayOf(with(0, 0, 12));
        turn("three monks", x, 0, 0, 1, NONE, NONE);
        DUE.is("22: fail(0)", x.fail(0), 2);
        DUE.is("22: fail(1), by who failed at duty 0", x.fail(1), 0);
        turn("then", x, 0, 2, 0, NONE, NONE);
        DUE.is("21: turns(1, 4)", x.turns(1, 4), 0);
    }

    private static void turnsBehindAFailTellWhoIsNext() {
        AbbeyHours x = dayOf(with(14, 14));
        DUE.is("22: fail(0)", x.fail(0), 1);
        x.day();
        turn("monk 0 has no turn", x, 1, 0);
        AbbeyHours y = with(14, 14);
        Due.goBy(y, 2);
        DUE.is("22: fail(0) of monk 1", y.fail(0), 0);
        y.day();
        turn("monk 1 has no turn", y, 2, 1);
        y.day();
        turn("monk 1 has one turn and monk 0 two", y, 3, 1);
    }
}
