/** Promises 14, 15 and 16: gifts, leave, and the masses of each gift. */
public final class GiftsTest {
    private static final Due DUE = new Due();

    public static void main(String[] args) {
        wrongGifts();
        fortyGifts();
        whenTheyAreDue();
        fromTodayOn();
        leave();
        leaveRows();
        oneLeave();
        whichIsSaid();
        priestsWhoSay();
        DUE.end();
    }

    private static void row(String of, AbbeyHours x, int gift, int... due) {
        for (int what = 0; what < due.length; what++) {
            DUE.is("16: " + of + ": giftOf(" + gift + ", " + what + ")", x.giftOf(gift, what), due[what]);
        }
    }

    private static void wrongGifts() {
        AbbeyHours x = new AbbeyHours();
        DUE.is("14: gift(true, -1, false)", x.gift(true, -1, false), -1);
        DUE.is("14: gift(true, 7, false)", x.gift(true, 7, false), -1);
        DUE.is("14: gift(false, -1, false)", x.gift(false, -1, false), -1);
        DUE.is("14: gift(false, 365, false)", x.gift(false, 365, false), -1);
        DUE.is("14: count(3)", x.count(3), 0);
        DUE.is("14: gift(true, 6, false)", x.gift(true, 6, false), 0);
        DUE.is("14: gift(false, 364, true)", x.gift(false, 364, true), 1);
        DUE.is("16: giftOf(-1, 0)", x.giftOf(-1, 0), -1);
        DUE.is("16: giftOf(2, 0)", x.giftOf(2, 0), -1);
        DUE.is("16: giftOf(0, -1)", x.giftOf(0, -1), -1);
        DUE.is("16: giftOf(0, 3)", x.giftOf(0, 3), -1);
        row("new", x, 0, 0, 0, 0);
    }

    private static void fortyGifts() {
        AbbeyHours x = new AbbeyHours();
        for (int i = 0; i < 40; i++) {
            DUE.is("14: gift " + i, x.gift(true, 0, false), i);
        }
        DUE.is("14: the 41st", x.gift(true, 0, false), -1);
        x.day();
        DUE.is("14: all are owed", x.count(7), 40);
    }

    private static void whenTheyAreDue() {
        AbbeyHours x = new AbbeyHours();
        x.gift(true, 2, false);
        x.gift(true, 2, true);
        x.gift(false, 9, false);
        x.gift(false, 9, true);
        Due.goBy(x, 2);
        DUE.is("14: nothing yet", x.count(7), 0);
        x.day();
        row("on weekday 2", x, 0, 1, 0, 0);
        row("doubled", x, 1, 2, 0, 0);
        row("not yet", x, 2, 0, 0, 0);
        Due.goBy(x, 7);
        row("weekday 2 again", x, 0, 2, 0, 0);
        row("weekday 2 again", x, 1, 4, 0, 0);
        row("on day 9", x, 2, 1, 0, 0);
        row("on day 9 doubled", x, 3, 2, 0, 0);
        Due.goBy(x, 364);
        row("a year on, not yet", x, 2, 1, 0, 0);
        Due.goBy(x, 1);
        row("a year on", x, 2, 2, 0, 0);
        row("a year on doubled", x, 3, 4, 0, 0);
        row("54 weekdays 2 up to day 374", x, 0, 54, 0, 0);
    }

    private static void fromTodayOn() {
        AbbeyHours x = new AbbeyHours();
        Due.goBy(x, 3);
        x.gift(true, 2, false);
        x.gift(true, 3, false);
        x.day();
        row("its weekday went by", x, 0, 0, 0, 0);
        row("its weekday is today", x, 1, 1, 0, 0);
    }

    private static void leave() {
        AbbeyHours x = new AbbeyHours();
        DUE.is("15: leave of none", x.leave(0, 0, 0), -1);
        x.gift(true, 0, true);
        x.gift(true, 0, false);
        DUE.is("15: leave(-1, 0, 0)", x.leave(-1, 0, 0), -1);
        DUE.is("15: leave(2, 0, 0)", x.leave(2, 0, 0), -1);
        DUE.is("15: leave(0, -1, 0)", x.leave(0, -1, 0), -1);
        DUE.is("15: leave(0, 3, 2)", x.leave(0, 3, 2), -1);
        DUE.is("15: leave(0, 0, 1095)", x.leave(0, 0, 1095), -1);
        DUE.is("15: leave(0, 1094, 1094)", x.leave(0, 1094, 1094), 1);
        DUE.is("15: leave(0, 7, 14)", x.leave(0, 7, 14), 2);
        DUE.is("15: leave(0, 14, 15)", x.leave(0, 14, 15), 3);
        DUE.is("15: leave(1, 8, 13)", x.leave(1, 8, 13), 4);
        Due.goBy(x, 1);
        row("ahead of it", x, 0, 2, 0, 0);
        DUE.is("15: of days gone by", x.leave(1, 0, 0), 5);
        row("nothing changes for days gone by", x, 1, 1, 0, 0);
        Due.goBy(x, 21);
        // Owed on days 0 and 21; leave on 7 and, told twice but counted once, on 14.
        row("doubled", x, 0, 4, 0, 4);
        row("leave between its days", x, 1, 4, 0, 0);
    }

    private static void leaveRows() {
        AbbeyHours x = new AbbeyHours();
        x.gift(true, 0, false);
        for (int i = 1; i <= 40; i++) {
            DUE.is("15: row " + i, x.leave(0, 5, 6), i);
        }
        DUE.is("15: row 41", x.leave(0, 0, 0), -1);
        x.day();
        row("no leave by it", x, 0, 1, 0, 0);
    }

    private static void oneLeave() {
        AbbeyHours x = new AbbeyHours();
        x.gift(false, 0, false);
        x.gift(false, 0, false);
        DUE.is("15: leave(1, 0, 0)", x.leave(1, 0, 0), 1);
        x.day();
        row("no leave of it", x, 0, 1, 0, 0);
        row("leave on its day", x, 1, 0, 0, 1);
    }

    private static void whichIsSaid() {
        AbbeyHours x = new AbbeyHours();
        x.monk(true, 0);
        x.monk(true, 0);
        x.gift(true, 0, false);
        x.gift(true, 0, true);
        x.gift(true, 0, true);
        x.day();
        row("of the most owed, the least", x, 0, 1, 0, 0);
        row("of the most owed, the least", x, 1, 1, 1, 0);
        row("of the most owed, the least", x, 2, 1, 1, 0);
        x.day();
        row("all the same", x, 0, 0, 1, 0);
        row("all the same", x, 1, 0, 2, 0);
        row("all the same", x, 2, 1, 1, 0);
        x.day();
        row("no more than is owed", x, 2, 0, 2, 0);
        DUE.is("23: dayOf(1, 3)", x.dayOf(1, 3), 2);
        DUE.is("23: dayOf(2, 3)", x.dayOf(2, 3), 1);
        DUE.is("23: dayOf(0, 4)", x.dayOf(0, 4), 3);
        DUE.is("23: dayOf(2, 4)", x.dayOf(2, 4), 0);
    }

    private static void priestsWhoSay() {
        AbbeyHours x = new AbbeyHours();
        x.monk(false, 0);
        x.monk(true, 15);
        x.monk(true, 0);
        x.away(2, 0, 0);
        for (int i = 0; i < 9; i++) {
            x.gift(true, 0, false);
        }
        x.day();
        DUE.is("16: only the able priest", x.count(8), 1);
        x.day();
        DUE.is("16: both priests", x.count(8), 3);
        row("by numbers", x, 2, 0, 1, 0);
        row("by numbers", x, 3, 1, 0, 0);
    }
}
