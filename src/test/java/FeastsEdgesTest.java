/** Promises 4, 5 and 6 at their edges, and FEASTS of the terms, a method for each sentence. */
public final class FeastsEdgesTest {
    private static final int NONE = AbbeyHours.NONE;
    private static final Due DUE = new Due();
    private static final Refusals REFUSED = new Refusals(DUE);

    public static void main(String[] args) {
        fallOnDays0To364();
        ranksAre1To4();
        feastsAre40AtMost();
        heldOfDays0To364();
        heldOnADayWithoutOne();
        whenOfOnesThatAreThere();
        whenOfOneThatIsNotHeld();
        greatestRankOfThoseThatFall();
        greatestRankOfThosePutOff();
        ofEqualsOneThatFalls();
        ofEqualsThatFallTheLesserNumber();
        ofEqualsPutOffTheLesserNumber();
        rank2IsPutOffAndRank1IsNot();
        rank1IsNotHeldIfOneIsPutOffToIt();
        putOffDayByDay();
        putOffToDay364();
        putOffBehindDay364();
        fortyOnOneDay();
        sameInEachYear();
        toldAnewByEachFeast();
        DUE.end();
    }

    /** Feasts as day, rank, day, rank, and so on. */
    private static AbbeyHours with(int... daysAndRanks) {
        AbbeyHours x = new AbbeyHours();
        for (int i = 0; i + 1 < daysAndRanks.length; i += 2) {
            x.feast(daysAndRanks[i], daysAndRanks[i + 1]);
        }
        return x;
    }

    private static void when(String what, AbbeyHours x, int... due) {
        for (int feast = 0; feast < due.length; feast++) {
            DUE.is("6: " + what + ": when(" + feast + ")", x.when(feast), due[feast]);
            if (due[feast] != NONE) {
                DUE.is("5: " + what + ": held(" + due[feast] + ")", x.held(due[feast]), feast);
            }
        }
    }

    private static void fallOnDays0To364() {
        DUE.is("4: a feast on day 0", new AbbeyHours().feast(0, 1), 0);
        DUE.is("4: a feast on day 364", new AbbeyHours().feast(364, 1), 0);
        REFUSED.outside("4: a feast on day", 0, 364, (x, day) -> x.feast(day, 4), NONE);
    }

    private static void ranksAre1To4() {
        for (int rank = 1; rank <= 4; rank++) {
            DUE.is("4: a feast of rank " + rank, new AbbeyHours().feast(9, rank), 0);
        }
        REFUSED.outside("4: a feast of rank", 1, 4, (x, rank) -> x.feast(5, rank), NONE);
    }

    /** Forty that give way to one another under a rule by ranks: a change of any one would show. */
    private static void fullOfFeasts(AbbeyHours x) {
        for (int i = 0; i < 40; i++) {
            x.feast(2, 2);
        }
        Due.takeRule(x, "feed rank 2 20; feed rank 4 40;");
    }

    private static void feastsAre40AtMost() {
        AbbeyHours x = new AbbeyHours();
        for (int i = 0; i < 40; i++) {
            DUE.is("4: feast " + i, x.feast(9 * i, 1 + i % 4), i);
        }
        DUE.is("4: count(2) of 40", x.count(2), 40);
        DUE.is("6: when(39)", x.when(39), 351);
        REFUSED.is("4: the 41st, on a day of its own", FeastsEdgesTest::fullOfFeasts, y -> y.feast(1, 4), NONE);
        REFUSED.is("4: the 41st, the greatest of its day", FeastsEdgesTest::fullOfFeasts,
                y -> y.feast(2, 4), NONE);
        REFUSED.is("4: the 41st, as one that is there", FeastsEdgesTest::fullOfFeasts, y -> y.feast(2, 2), NONE);
    }

    private static void heldOfDays0To364() {
        AbbeyHours x = with(0, 1, 364, 1);
        DUE.is("5: held(0)", x.held(0), 0);
        DUE.is("5: held(364)", x.held(364), 1);
        REFUSED.outside("5: held", 0, 364, AbbeyHours::held, NONE);
        REFUSED.is("5: held(365), day 0 again", y -> y.held(365), NONE);
    }

    private static void heldOnADayWithoutOne() {
        AbbeyHours x = with(10, 4);
        DUE.is("5: held(9)", x.held(9), NONE);
        DUE.is("5: held(11)", x.held(11), NONE);
        DUE.is("5: held(0)", x.held(0), NONE);
        DUE.is("5: held(0) without any feast", new AbbeyHours().held(0), NONE);
        DUE.is("5: held(364) without any feast", new AbbeyHours().held(364), NONE);
    }

    private static void whenOfOnesThatAreThere() {
        when("the first and the last", with(7, 1, 8, 1), 7, 8);
        REFUSED.outside("6: when", 0, 3, AbbeyHours::when, NONE);
        REFUSED.is("6: when(40) of 40", FeastsEdgesTest::fullOfFeasts, y -> y.when(40), NONE);
    }

    private static void whenOfOneThatIsNotHeld() {
        when("a lesser one of rank 1", with(7, 1, 7, 4), NONE, 7);
        when("the only one of rank 1", with(7, 1), 7);
    }

    private static void greatestRankOfThoseThatFall() {
        when("four ranks on a day", with(20, 1, 20, 2, 20, 3, 20, 4), NONE, 22, 21, 20);
        when("four ranks, the greatest told first", with(20, 4, 20, 3, 20, 2, 20, 1), 20, 21, 22, NONE);
    }

    private static void greatestRankOfThosePutOff() {
        when("put off and greater than one that falls", with(20, 4, 20, 3, 21, 2), 20, 21, 22);
        when("put off and less than one that falls", with(20, 4, 20, 2, 21, 3), 20, 22, 21);
    }

    private static void ofEqualsOneThatFalls() {
        when("the one put off has the lesser number", with(20, 3, 20, 3, 21, 3), 20, 22, 21);
        when("the one put off has the greater number", with(21, 3, 20, 3, 20, 3), 21, 20, 22);
    }

    private static void ofEqualsThatFallTheLesserNumber() {
        when("two that fall on a day", with(20, 2, 20, 2), 20, 21);
        when("two of rank 1", with(20, 1, 20, 1), 20, NONE);
        when("two that fall where one is put off to", with(20, 4, 20, 2, 21, 2, 21, 2), 20, 22, 21, 23);
    }

    private static void ofEqualsPutOffTheLesserNumber() {
        when("two put off", with(20, 2, 20, 2, 20, 4), 21, 22, 20);
        // Feast 1 is put off from the day behind, feast 0 from the day ahead of it.
        when("two put off from two days", with(21, 2, 20, 2, 20, 4, 21, 4), 22, 23, 20, 21);
        when("two put off from two days, the other way", with(20, 2, 21, 2, 20, 4, 21, 4), 22, 23, 20, 21);
    }

    private static void rank2IsPutOffAndRank1IsNot() {
        when("rank 2 is the least that is put off", with(20, 4, 20, 2), 20, 21);
        when("rank 1 isn't put off", with(20, 4, 20, 1), 20, NONE);
        DUE.is("5: the day behind it has none", with(20, 4, 20, 1).held(21), NONE);
    }

    private static void rank1IsNotHeldIfOneIsPutOffToIt() {
        when("one put off to its day", with(20, 4, 20, 2, 21, 1), 20, 21, NONE);
        DUE.is("5: and it isn't put off", with(20, 4, 20, 2, 21, 1).held(22), NONE);
    }

    private static void putOffDayByDay() {
        when("over three greater ones", with(20, 2, 20, 4, 21, 4, 22, 3, 23, 2), 24, 20, 21, 22, 23);
    }

    private static void putOffToDay364() {
        when("the last day is one to put off to", with(363, 4, 363, 2), 363, 364);
        when("from far", with(361, 2, 361, 4, 362, 4, 363, 4), 364, 361, 362, 363);
    }

    private static void putOffBehindDay364() {
        AbbeyHours x = with(364, 4, 364, 3);
        when("behind the last day", x, 364, NONE);
        DUE.is("5: not on day 0", x.held(0), NONE);
        DUE.is("13: nor on day 0 a year on", x.fast(365, 1), 2);
        AbbeyHours y = with(363, 4, 363, 4, 363, 2, 364, 4);
        when("behind the last day from the one ahead", y, 363, NONE, NONE, 364);
        DUE.is("5: neither on day 0", y.held(0), NONE);
        DUE.is("5: nor on day 1", y.held(1), NONE);
    }

    private static void fortyOnOneDay() {
        AbbeyHours x = new AbbeyHours();
        for (int i = 0; i < 40; i++) {
            x.feast(330, 2);
        }
        for (int i = 0; i < 40; i++) {
            DUE.is("6: forty on day 330: when(" + i + ")", x.when(i), i < 35 ? 330 + i : NONE);
        }
    }

    private static void sameInEachYear() {
        AbbeyHours x = with(0, 3, 364, 3);
        Due.takeRule(x, "fast from 0 to 364;");
        int[] days = {0, 364, 365, 729, 730, 1094};
        for (int day : days) {
            DUE.is("13: no fast on day " + day, x.fast(day, 0), 0);
        }
        DUE.is("13: a fast on day 1,093", x.fast(1093, 0), 1);
    }

    private static void toldAnewByEachFeast() {
        AbbeyHours x = with(20, 2, 21, 2);
        when("two days", x, 20, 21);
        x.feast(20, 3);
        when("the first gives way, and not the second", x, 22, 21, 20);
        x.feast(22, 4);
        when("and gives way again", x, 23, 21, 20, 22);
    }
}
