/** Promises 2 and 3: monks, and when they are away. */
public final class MonksTest {
    private static final Due DUE = new Due();

    public static void main(String[] args) {
        monks();
        wrongAbsences();
        absenceTakesBothEnds();
        sixtyRows();
        DUE.end();
    }

    private static void monks() {
        AbbeyHours x = new AbbeyHours();
        DUE.is("2: monk(true, -1)", x.monk(true, -1), -1);
        DUE.is("2: monk(true, 16)", x.monk(true, 16), -1);
        DUE.is("2: count(1) behind wrong ones", x.count(1), 0);
        for (int i = 0; i < 24; i++) {
            DUE.is("2: monk " + i, x.monk(i % 2 == 0, i % 16), i);
        }
        DUE.is("2: the 25th monk", x.monk(true, 0), -1);
        DUE.is("2: count(1)", x.count(1), 24);
    }

    private static void wrongAbsences() {
        AbbeyHours x = new AbbeyHours();
        DUE.is("3: away(0, 0, 0) of nobody", x.away(0, 0, 0), -1);
        x.monk(false, 0);
        DUE.is("3: away(-1, 0, 0)", x.away(-1, 0, 0), -1);
        DUE.is("3: away(1, 0, 0)", x.away(1, 0, 0), -1);
        DUE.is("3: away(0, -1, 0)", x.away(0, -1, 0), -1);
        DUE.is("3: away(0, 2, 1)", x.away(0, 2, 1), -1);
        DUE.is("3: away(0, 0, 1095)", x.away(0, 0, 1095), -1);
        DUE.is("3: away(0, 1095, 1095)", x.away(0, 1095, 1095), -1);
        x.day();
        x.day();
        DUE.is("3: away(0, 1, 5) on day 2", x.away(0, 1, 5), -1);
        DUE.is("3: away(0, 2, 2) on day 2", x.away(0, 2, 2), 1);
        DUE.is("3: away(0, 1094, 1094)", x.away(0, 1094, 1094), 2);
        DUE.is("3: away(0, 2, 1094)", x.away(0, 2, 1094), 3);
    }

    private static void absenceTakesBothEnds() {
        AbbeyHours x = new AbbeyHours();
        x.monk(false, 0);
        DUE.is("3: away(0, 1, 2)", x.away(0, 1, 2), 1);
        Due.goBy(x, 4);
        DUE.is("3: turn(0, 0)", x.turn(0, 0), 0);
        DUE.is("3: turn(1, 0)", x.turn(1, 0), -1);
        DUE.is("3: turn(2, 0)", x.turn(2, 0), -1);
        DUE.is("3: turn(3, 0)", x.turn(3, 0), 0);
    }

    private static void sixtyRows() {
        AbbeyHours x = new AbbeyHours();
        x.monk(false, 0);
        x.monk(false, 0);
        for (int i = 1; i <= 59; i++) {
            DUE.is("3: row " + i, x.away(0, 5, 5), i);
        }
        DUE.is("3: row 60", x.away(1, 0, 0), 60);
        DUE.is("3: row 61", x.away(0, 0, 0), -1);
        x.day();
        DUE.is("3: turn(0, 0) by the 60th row alone", x.turn(0, 0), 0);
        DUE.is("3: turn(0, 1) by the 60th row alone", x.turn(0, 1), -1);
    }
}
