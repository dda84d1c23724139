/** Promises 20, 21 and 22: whose turn it is, how many turns, and who steps in. */
public final class DutiesTest {
    private static final Due DUE = new Due();

    public static void main(String[] args) {
        turnsStayEven();
        barsHold();
        wrongAsks();
        anotherStepsIn();
        stepsInByFewestTurns();
        failedOneMayTakeAnotherDuty();
        nobodyToStepIn();
        oneWhoCameLaterWasNotAble();
        oneWhoCameOnTheDayWasAble();
        onlyTheAbleStepIn();
        DUE.end();
    }

    private static AbbeyHours withMonks(int... bars) {
        AbbeyHours x = new AbbeyHours();
        for (int b : bars) {
            x.monk(false, b);
        }
        return x;
    }

    private static void row(String when, AbbeyHours x, int day, int... due) {
        for (int duty = 0; duty < due.length; duty++) {
            DUE.is("20: " + when + ": turn(" + day + ", " + duty + ")", x.turn(day, duty), due[duty]);
        }
    }

    private static void turnsStayEven() {
        AbbeyHours x = withMonks(0, 0, 0, 0, 0);
        Due.goBy(x, 4);
        row("five monks", x, 0, 0, 1, 2, 3);
        row("five monks", x, 1, 1, 0, 3, 2);
        // Duty 2: 2 and 3 had it once, so 0, 1 and 4 are ahead of them.
        row("five monks", x, 2, 2, 3, 0, 1);
        row("five monks", x, 3, 3, 2, 1, 0);
        DUE.is("21: turns(0, 0)", x.turns(0, 0), 1);
        DUE.is("21: turns(0, 1)", x.turns(0, 1), 1);
        DUE.is("21: turns(0, 2)", x.turns(0, 2), 1);
        DUE.is("21: turns(0, 3)", x.turns(0, 3), 1);
        DUE.is("21: turns(0, 4)", x.turns(0, 4), 4);
        DUE.is("21: turns(4, 4)", x.turns(4, 4), 0);
        Due.goBy(x, 1);
        row("five monks", x, 4, 4, 0, 1, 2);
        DUE.is("21: turns(4, 0)", x.turns(4, 0), 1);
        DUE.is("21: turns(4, 4) later", x.turns(4, 4), 1);
    }

    private static void barsHold() {
        AbbeyHours x = withMonks(1, 2, 4, 8, 15);
        Due.goBy(x, 1);
        row("bars", x, 0, 1, 0, 3, 2);
        AbbeyHours y = withMonks(15);
        Due.goBy(y, 1);
        row("all barred", y, 0, -1, -1, -1, -1);
        AbbeyHours z = withMonks(7);
        Due.goBy(z, 1);
        row("but duty 3", z, 0, -1, -1, -1, 0);
    }

    private static void wrongAsks() {
        AbbeyHours x = withMonks(0);
        x.day();
        DUE.is("20: turn(-1, 0)", x.turn(-1, 0), -1);
        DUE.is("20: turn(1, 0)", x.turn(1, 0), -1);
        DUE.is("20: turn(0, -1)", x.turn(0, -1), -1);
        DUE.is("20: turn(0, 4)", x.turn(0, 4), -1);
        DUE.is("20: turn(max, 0)", x.turn(Integer.MAX_VALUE, 0), -1);
        DUE.is("21: turns(-1, 0)", x.turns(-1, 0), -1);
        DUE.is("21: turns(1, 0)", x.turns(1, 0), -1);
        DUE.is("21: turns(0, -1)", x.turns(0, -1), -1);
        DUE.is("21: turns(0, 5)", x.turns(0, 5), -1);
        DUE.is("22: fail(-1)", x.fail(-1), -2);
        DUE.is("22: fail(4)", x.fail(4), -2);
        DUE.is("22: fail(1), nobody had it", x.fail(1), -2);
        DUE.is("22: nothing was done", x.turns(0, 4), 1);
    }

    private static void anotherStepsIn() {
        AbbeyHours x = withMonks(0, 0, 0, 0, 2, 0);
        DUE.is("22: fail(0) ahead of all days", x.fail(0), -2);
        x.day();
        DUE.is("22: fail(1)", x.fail(1), 5);
        row("behind fail(1)", x, 0, 0, 5, 2, 3);
        DUE.is("22: turns(1, 1)", x.turns(1, 1), 0);
        DUE.is("22: turns(5, 1)", x.turns(5, 1), 1);
        DUE.is("22: fail(0)", x.fail(0), 1);
        row("behind fail(0)", x, 0, 1, 5, 2, 3);
    }

    private static void stepsInByFewestTurns() {
        AbbeyHours x = withMonks(14, 14, 14);
        Due.goBy(x, 4);
        // Monk 0 has two turns now and 1 and 2 one each.
        DUE.is("22: fail(0) on day 4", x.fail(0), 1);
        DUE.is("22: turns(0, 0)", x.turns(0, 0), 1);
        DUE.is("22: turns(1, 0)", x.turns(1, 0), 2);
        DUE.is("22: fail(0) again", x.fail(0), 0);
        DUE.is("22: turn(3, 0)", x.turn(3, 0), 0);
        DUE.is("22: only the last day changes", x.turn(0, 0), 0);
    }

    private static void failedOneMayTakeAnotherDuty() {
        AbbeyHours x = withMonks(0, 0, 12);
        x.day();
        row("three monks", x, 0, 0, 1, -1, -1);
        DUE.is("22: fail(0)", x.fail(0), 2);
        DUE.is("22: fail(1), by the one who failed at 0", x.fail(1), 0);
        row("three monks later", x, 0, 2, 0, -1, -1);
    }

    private static void nobodyToStepIn() {
        AbbeyHours x = withMonks(0, 1);
        x.day();
        DUE.is("22: fail(0) and nobody can", x.fail(0), -1);
        DUE.is("22: turn(0, 0)", x.turn(0, 0), -1);
        DUE.is("22: turns(0, 0)", x.turns(0, 0), 0);
        DUE.is("22: fail(0) again", x.fail(0), -2);
    }

    private static void oneWhoCameLaterWasNotAble() {
        AbbeyHours x = withMonks(0);
        x.day();
        x.monk(false, 0);
        DUE.is("22: fail(0), the other came later", x.fail(0), -1);
        DUE.is("20: turn(0, 0)", x.turn(0, 0), -1);
        DUE.is("21: turns(0, 0)", x.turns(0, 0), 0);
        DUE.is("21: turns(1, 0)", x.turns(1, 0), 0);
        DUE.is("22: fail(0) again", x.fail(0), -2);
        x.day();
        row("the day on which the other is there", x, 1, 0, 1, -1, -1);

        // Monk 3 has the fewest turns of all, but came in behind the day.
        AbbeyHours y = withMonks(14, 14, 14);
        Due.goBy(y, 3);
        y.monk(false, 14);
        DUE.is("22: fail(0), by one with more turns", y.fail(0), 0);
        DUE.is("21: turns(0, 0) then", y.turns(0, 0), 2);
        DUE.is("21: turns(3, 0) then", y.turns(3, 0), 0);
        y.day();
        DUE.is("20: turn(3, 0), by the fewest turns", y.turn(3, 0), 2);
        DUE.is("22: fail(0), the new one was there", y.fail(0), 3);
    }

    private static void oneWhoCameOnTheDayWasAble() {
        AbbeyHours x = withMonks(14);
        x.day();
        x.monk(false, 14);
        x.day();
        DUE.is("20: turn(1, 0)", x.turn(1, 0), 1);
        DUE.is("22: fail(0), back to the first", x.fail(0), 0);
        DUE.is("22: fail(0), by who came on that day", x.fail(0), 1);
    }

    private static void onlyTheAbleStepIn() {
        AbbeyHours x = withMonks(14, 14, 14);
        x.away(1, 0, 0);
        x.day();
        x.away(2, 1, 1);
        DUE.is("22: fail(0), 1 was away", x.fail(0), 2);
        DUE.is("22: fail(0) back", x.fail(0), 0);
    }
}
