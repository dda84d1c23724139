/** An object with everything at its most: what is full refuses one more, and the days go by all the same. */
public final class AllFullEdgesTest {
    private static final int NONE = AbbeyHours.NONE;
    private static final Due DUE = new Due();

    public static void main(String[] args) {
        AbbeyHours x = new AbbeyHours();
        fill(x);
        oneMoreIsRefused(x);
        counts("full", x, 0, 24, 40, 40, 9_000, 200, 10, 0, 0, 0, 600);
        daysGoBy(x);
        DUE.end();
    }

    private static void fill(AbbeyHours x) {
        for (int i = 0; i < 24; i++) {
            DUE.is("2: monk " + i, x.monk(true, 0), i);
        }
        for (int i = 0; i < 40; i++) {
            DUE.is("4: feast " + i, x.feast(2, 4), i);
            DUE.is("14: gift " + i, x.gift(true, 0, true), i);
        }
        fillRows(x);
        for (int i = 0; i < 10; i++) {
            DUE.is("11: rule " + i, Due.takeRule(x, i < 9 ? "feed 9;" : "feed rank 4 5; feed 1;"), i);
        }
        for (int bytes = 20; bytes <= 600; bytes += 20) {
            DUE.is("10: feed", x.feed(0, 0, 0, 0, 0), bytes);
        }
        for (int heads = 50; heads <= 200; heads += 50) {
            DUE.is("18: guests", x.guests(50, 5), heads);
        }
        DUE.is("17: store", x.store(9_000), 9_000);
    }

    private static void fillRows(AbbeyHours x) {
        for (int i = 0; i < 40; i++) {
            DUE.is("15: leave " + i, x.leave(39, 0, 6), i + 1);
        }
        for (int i = 0; i < 60; i++) {
            DUE.is("3: away " + i, x.away(23, 0, i % 2), i + 1);
        }
        for (int i = 0; i < 100; i++) {
            DUE.holds("9: bell " + i + " was refused", x.late(1 + i / 8, i % 8, 1) != NONE);
        }
    }

    private static void oneMoreIsRefused(AbbeyHours x) {
        DUE.is("2: monk", x.monk(false, 0), NONE);
        DUE.is("3: away", x.away(0, 0, 1094), NONE);
        DUE.is("4: feast", x.feast(0, 4), NONE);
        DUE.is("9: late", x.late(0, 6, 60), NONE);
        DUE.is("10: feed", x.feed(1, 1, 1, 1, 1), NONE);
        DUE.is("11: rule", x.rule(0), -3);
        DUE.is("14: gift", x.gift(true, 0, true), NONE);
        DUE.is("15: leave", x.leave(0, 0, 1094), NONE);
        DUE.is("18: guests", x.guests(1, 0), NONE);
    }

    private static void counts(String when, AbbeyHours x, int... due) {
        for (int what = 0; what < due.length; what++) {
            DUE.is("24: " + when + ": count(" + what + ")", x.count(what), due[what]);
        }
    }

    private static void row(AbbeyHours x, int day, int... due) {
        for (int what = 0; what < due.length; what++) {
            DUE.is("23: dayOf(" + day + ", " + what + ")", x.dayOf(day, what), due[what]);
        }
    }

    private static void daysGoBy(AbbeyHours x) {
        Due.goBy(x, 5);
        // Of 40 gifts one has leave, so 78 masses are owed, and monk 23 is away on days 0 and 1.
        row(x, 0, 24 + 200 * 8, 0, 90, 23, 55);
        row(x, 1, 24, 0, 90, 23, 32);
        row(x, 2, 24 * 5, 0, 90, 24, 8);
        row(x, 3, 24 * 5, 0, 90, 8, 0);
        row(x, 4, 24 * 5, 0, 90, 0, 0);
        counts("behind five days", x, 5, 24, 40, 40, 9_000 - 1_624 - 24 - 360, 0, 10, 0, 78, 450, 600);
        DUE.is("16: the one with leave", x.giftOf(39, 2), 2);
        DUE.is("6: the last of forty feasts", x.when(39), 41);
        DUE.is("21: turns of the last monk", x.turns(23, 4), 0);
        // Four monks change about through the four duties of days 0 to 3, then the next four begin.
        DUE.is("20: turn(3, 3)", x.turn(3, 3), 0);
        DUE.is("20: turn(4, 3)", x.turn(4, 3), 7);
    }
}
