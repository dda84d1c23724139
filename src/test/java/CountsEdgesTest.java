/** Promises 1 and 24 at their edges, a method for each sentence. */
public final class CountsEdgesTest {
    private static final int NONE = AbbeyHours.NONE;
    private static final Due DUE = new Due();
    private static final Refusals REFUSED = new Refusals(DUE);

    public static void main(String[] args) {
        noMonksAtFirst();
        noFeastsAtFirst();
        noGiftsAtFirst();
        todayIs0AtFirst();
        nothingElseAtFirst();
        countIs0To10();
        eachCountIsOfOneThing();
        askingChangesNothing();
        DUE.end();
    }

    private static void noMonksAtFirst() {
        DUE.is("1: count(1)", new AbbeyHours().count(1), 0);
        DUE.is("1: turns(0, 4)", new AbbeyHours().turns(0, 4), NONE);
        DUE.is("1: the first monk", new AbbeyHours().monk(true, 0), 0);
    }

    private static void noFeastsAtFirst() {
        DUE.is("1: count(2)", new AbbeyHours().count(2), 0);
        AbbeyHours x = new AbbeyHours();
        for (int y = 0; y < 365; y++) {
            DUE.is("1: held(" + y + ")", x.held(y), NONE);
        }
        DUE.is("1: when(0)", x.when(0), NONE);
        DUE.is("1: the first feast", x.feast(0, 1), 0);
    }

    private static void noGiftsAtFirst() {
        DUE.is("1: count(3)", new AbbeyHours().count(3), 0);
        DUE.is("1: giftOf(0, 0)", new AbbeyHours().giftOf(0, 0), NONE);
        DUE.is("1: the first gift", new AbbeyHours().gift(true, 0, false), 0);
    }

    private static void todayIs0AtFirst() {
        DUE.is("1: count(0)", new AbbeyHours().count(0), 0);
        DUE.is("1: the first day", new AbbeyHours().day(), 1);
        DUE.is("1: no day went by", new AbbeyHours().fail(0), -2);
        DUE.is("1: dayOf(0, 0)", new AbbeyHours().dayOf(0, 0), NONE);
    }

    private static void nothingElseAtFirst() {
        for (int what = 4; what <= 10; what++) {
            DUE.is("1: count(" + what + ")", new AbbeyHours().count(what), 0);
        }
        DUE.is("1: fault()", new AbbeyHours().fault(), NONE);
    }

    private static void countIs0To10() {
        REFUSED.outside("24: count", 0, 10, AbbeyHours::count, NONE);
    }

    private static void counts(String when, AbbeyHours x, int... due) {
        for (int what = 0; what < due.length; what++) {
            DUE.is("24: " + when + ": count(" + what + ")", x.count(what), due[what]);
        }
    }

    private static void eachCountIsOfOneThing() {
        AbbeyHours x = new AbbeyHours();
        counts("new", x, 0, 0, 0, 0, 0, 0, 0, 0, 0, 0, 0);
        x.monk(true, 0);
        counts("a monk", x, 0, 1, 0, 0, 0, 0, 0, 0, 0, 0, 0);
        x.feast(3, 3);
        counts("a feast", x, 0, 1, 1, 0, 0, 0, 0, 0, 0, 0, 0);
        x.gift(true, 0, true);
        counts("a gift", x, 0, 1, 1, 1, 0, 0, 0, 0, 0, 0, 0);
        x.store(40);
        counts("a store", x, 0, 1, 1, 1, 40, 0, 0, 0, 0, 0, 0);
        x.guests(3, 2);
        counts("guests", x, 0, 1, 1, 1, 40, 3, 0, 0, 0, 0, 0);
        Due.feedText(x, "feed 7;");
        counts("bytes", x, 0, 1, 1, 1, 40, 3, 0, 0, 0, 0, 20);
        x.rule(7);
        counts("a rule", x, 0, 1, 1, 1, 40, 3, 1, 0, 0, 0, 0);
        x.away(0, 1, 1);
        x.leave(0, 9, 9);
        x.late(0, 6, 43);
        counts("rows", x, 0, 1, 1, 1, 40, 3, 1, 0, 0, 0, 0);
        x.day();
        counts("a day", x, 1, 1, 1, 1, 40 - 7 - 15, 0, 1, 1, 1, 120, 0);
        x.day();
        counts("another day", x, 2, 1, 1, 1, 11, 0, 1, 1, 1, 210, 0);
    }

    private static void askingChangesNothing() {
        Refusals.Call[] asks = {x -> x.held(5), x -> x.when(0), x -> x.light(3, 0), x -> x.office(4, 2),
            x -> x.fault(), x -> x.fast(3, 0), x -> x.giftOf(0, 0), x -> x.turn(0, 0), x -> x.turns(0, 4),
            x -> x.dayOf(0, 2), x -> x.count(0)};
        AbbeyHours busy = new AbbeyHours();
        Refusals.busy(busy);
        for (int i = 0; i < asks.length; i++) {
            int answer = asks[i].on(busy);
            REFUSED.is("24: question " + i, Refusals::busy, asks[i], answer);
        }
    }
}
