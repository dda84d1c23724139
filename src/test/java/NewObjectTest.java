/** Promises 1 and 24: what a new object holds, and the counts. */
public final class NewObjectTest {
    private static final Due DUE = new Due();

    public static void main(String[] args) {
        newObject();
        counts();
        objectsAreApart();
        DUE.end();
    }

    private static void newObject() {
        AbbeyHours x = new AbbeyHours();
        for (int what = 0; what <= 10; what++) {
            DUE.is("1: new count(" + what + ")", x.count(what), 0);
        }
        DUE.is("1: new turns(0, 0)", x.turns(0, 0), -1);
        DUE.is("1: new turns(0, 4)", x.turns(0, 4), -1);
        DUE.is("1: new held(0)", x.held(0), -1);
        DUE.is("1: new held(364)", x.held(364), -1);
        DUE.is("1: new when(0)", x.when(0), -1);
        DUE.is("1: new giftOf(0, 0)", x.giftOf(0, 0), -1);
        DUE.is("1: new turn(0, 0)", x.turn(0, 0), -1);
        DUE.is("1: new dayOf(0, 0)", x.dayOf(0, 0), -1);
        DUE.is("1: new fault()", x.fault(), -1);
        DUE.is("1: new fail(0)", x.fail(0), -2);
        DUE.is("1: first day()", x.day(), 1);
    }

    private static void counts() {
        AbbeyHours x = new AbbeyHours();
        x.monk(true, 0);
        x.monk(false, 0);
        x.feast(1, 1);
        x.feast(2, 1);
        x.feast(3, 1);
        for (int i = 0; i < 4; i++) {
            x.gift(true, 0, false);
        }
        x.store(50);
        x.guests(6, 0);
        Due.takeRule(x, "feed 1;");
        Due.feedText(x, "feed");
        DUE.is("24: count(0)", x.count(0), 0);
        DUE.is("24: count(1)", x.count(1), 2);
        DUE.is("24: count(2)", x.count(2), 3);
        DUE.is("24: count(3)", x.count(3), 4);
        DUE.is("24: count(4)", x.count(4), 50);
        DUE.is("24: count(5)", x.count(5), 6);
        DUE.is("24: count(6)", x.count(6), 1);
        DUE.is("24: count(7) ahead of the day", x.count(7), 0);
        DUE.is("24: count(10)", x.count(10), 20);
        x.day();
        DUE.is("24: count(0) later", x.count(0), 1);
        DUE.is("24: count(4) later", x.count(4), 50 - 2 - 18);
        DUE.is("24: count(5) later", x.count(5), 0);
        DUE.is("24: count(7) later", x.count(7), 3);
        DUE.is("24: count(8) later", x.count(8), 1);
        DUE.is("24: count(9) later", x.count(9), 90);
        x.day();
        DUE.is("24: count(7) at last", x.count(7), 2);
        DUE.is("24: count(8) at last", x.count(8), 2);
        DUE.is("24: count(9) at last", x.count(9), 180);
        DUE.is("24: count(10) at last", x.count(10), 20);
        DUE.is("24: count(-1)", x.count(-1), -1);
        DUE.is("24: count(11)", x.count(11), -1);
        DUE.is("24: count(max)", x.count(Integer.MAX_VALUE), -1);
    }

    private static void objectsAreApart() {
        AbbeyHours x = new AbbeyHours();
        AbbeyHours y = new AbbeyHours();
        x.monk(true, 0);
        x.store(7);
        x.day();
        DUE.is("1: the other object's count(0)", y.count(0), 0);
        DUE.is("1: the other object's count(1)", y.count(1), 0);
        DUE.is("1: the other object's count(4)", y.count(4), 0);
    }
}
