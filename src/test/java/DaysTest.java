import java.util.Random;

/** Promises 17, 18, 19 and 23: store, guests, and what the days gone by came to. */
public final class DaysTest {
    private static final Due DUE = new Due();

    public static void main(String[] args) {
        store();
        guests();
        days();
        food();
        foodByFeastAndFast();
        candlesOfLateBells();
        candlesAsAPlainModel();
        figuresStay();
        DUE.end();
    }

    private static void store() {
        AbbeyHours x = new AbbeyHours();
        DUE.is("17: store(-1)", x.store(-1), -1);
        DUE.is("17: store(10001)", x.store(10_001), -1);
        DUE.is("17: store(0)", x.store(0), 0);
        for (int i = 1; i < 100; i++) {
            DUE.is("17: store(10000)", x.store(10_000), 10_000 * i);
        }
        DUE.is("17: store(9999)", x.store(9_999), 999_999);
        DUE.is("17: store(2)", x.store(2), -1);
        DUE.is("17: store(1)", x.store(1), 1_000_000);
        DUE.is("17: store(1) above", x.store(1), -1);
        DUE.is("17: store(0) at the top", x.store(0), 1_000_000);
        DUE.is("17: count(4)", x.count(4), 1_000_000);
    }

    private static void guests() {
        AbbeyHours x = new AbbeyHours();
        DUE.is("18: guests(0, 0)", x.guests(0, 0), -1);
        DUE.is("18: guests(51, 0)", x.guests(51, 0), -1);
        DUE.is("18: guests(1, -1)", x.guests(1, -1), -1);
        DUE.is("18: guests(1, 6)", x.guests(1, 6), -1);
        DUE.is("18: count(5)", x.count(5), 0);
        DUE.is("18: guests(50, 5)", x.guests(50, 5), 50);
        DUE.is("18: guests(50, 0)", x.guests(50, 0), 100);
        DUE.is("18: guests(50, 0)", x.guests(50, 0), 150);
        DUE.is("18: guests(49, 0)", x.guests(49, 0), 199);
        DUE.is("18: guests(2, 0)", x.guests(2, 0), -1);
        DUE.is("18: guests(1, 0)", x.guests(1, 0), 200);
        DUE.is("18: guests(1, 0) above", x.guests(1, 0), -1);
        x.day();
        DUE.is("18: food of them", x.dayOf(0, 1), 200 * 3 + 50 * 5);
        DUE.is("18: for one day alone", x.guests(1, 1), 1);
        x.day();
        DUE.is("18: food of the next", x.dayOf(1, 1), 4);
    }

    private static void days() {
        AbbeyHours x = new AbbeyHours();
        x.monk(false, 0);
        x.monk(false, 0);
        for (int day = 1; day <= 450; day++) {
            DUE.is("19: day()", x.day(), day);
        }
        for (int day : new int[] {0, 31, 32, 63, 64, 127, 128, 255, 256, 449}) {
            DUE.is("23: dayOf(" + day + ", 1)", x.dayOf(day, 1), 4);
            DUE.is("23: dayOf(" + day + ", 2)", x.dayOf(day, 2), 90);
            DUE.is("20: turn(" + day + ", 0)", x.turn(day, 0), day % 2);
            DUE.is("20: turn(" + day + ", 1)", x.turn(day, 1), 1 - day % 2);
            DUE.is("20: turn(" + day + ", 3)", x.turn(day, 3), -1);
        }
        AbbeyHours y = new AbbeyHours();
        // The last day lies behind the 512 calls of an object; this class answers there as before.
        Due.goBy(y, 1093);
        DUE.is("19: day() to the last day", y.day(), 1094);
        DUE.is("19: day() on the last day", y.day(), -1);
        DUE.is("19: count(0)", y.count(0), 1094);
        DUE.is("23: dayOf(1093, 2)", y.dayOf(1093, 2), 90);
        DUE.is("23: dayOf(1094, 2)", y.dayOf(1094, 2), -1);
    }

    private static void row(String of, AbbeyHours x, int day, int... due) {
        for (int what = 0; what < due.length; what++) {
            DUE.is("23: " + of + ": dayOf(" + day + ", " + what + ")", x.dayOf(day, what), due[what]);
        }
    }

    private static void food() {
        AbbeyHours x = new AbbeyHours();
        x.monk(false, 0);
        x.monk(false, 0);
        x.monk(false, 0);
        x.away(0, 0, 5);
        x.store(17);
        x.day();
        row("away or not", x, 0, 6, 0, 90, 0, 0);
        x.guests(2, 0);
        x.day();
        row("all of the store", x, 1, 11, 1, 90, 0, 0);
        DUE.is("23: count(4)", x.count(4), 0);
        x.day();
        row("an empty store", x, 2, 0, 6, 90, 0, 0);
        DUE.is("23: dayOf(3, 0)", x.dayOf(3, 0), -1);
        DUE.is("23: dayOf(-1, 0)", x.dayOf(-1, 0), -1);
        DUE.is("23: dayOf(0, -1)", x.dayOf(0, -1), -1);
        DUE.is("23: dayOf(0, 5)", x.dayOf(0, 5), -1);
    }

    private static void foodByFeastAndFast() {
        AbbeyHours x = new AbbeyHours();
        x.monk(true, 0);
        x.monk(true, 0);
        x.store(10_000);
        x.feast(1, 3);
        Due.takeRule(x, "fast from 0 to 1;feed fast 1;feed rank 3 100;feed 10;feed guest 20;");
        x.guests(3, 2);
        x.guests(1, 5);
        Due.goBy(x, 3);
        row("fast, and guests", x, 0, 2 + 3 * 22 + 25, 0);
        row("feast", x, 1, 200, 0);
        row("neither", x, 2, 20, 0);
        Due.takeRule(x, "");
        x.day();
        row("by the new rule", x, 3, 4, 0);
        DUE.is("23: count(4)", x.count(4), 10_000 - 93 - 200 - 20 - 4);
    }

    private static void candlesOfLateBells() {
        AbbeyHours x = new AbbeyHours();
        // Sunset is at 973: of the minutes from 960 on seventeen are behind it.
        DUE.is("9: late(0, 6, 30)", x.late(0, 6, 30), 960);
        // Sunrise is at 467: of the minutes from 447 on twenty are ahead of it.
        DUE.is("9: late(0, 1, 40)", x.late(0, 1, 40), 447);
        x.day();
        row("late bells", x, 0, 0, 0, 30 + 20 + 17 + 30);
        x.day();
        row("the next day", x, 1, 0, 0, 90);
        DUE.is("24: count(9)", x.count(9), 97 + 90);
    }

    private static void candlesAsAPlainModel() {
        Random random = new Random(11);
        AbbeyHours x = new AbbeyHours();
        int all = 0;
        for (int day = 0; day < 28; day++) {
            x.late(day, 1 + random.nextInt(2), 1 + random.nextInt(120));
            x.late(day, 6, 1 + random.nextInt(120));
            int rise = x.light(day, 1);
            int setting = x.light(day, 2);
            int dark = 0;
            for (int k = 0; k < 8; k++) {
                int start = x.office(day, k);
                for (int minute = start; minute < start + 30; minute++) {
                    if (minute < rise || minute >= setting) {
                        dark++;
                    }
                }
            }
            x.day();
            all += dark;
            row("model", x, day, 0, 0, dark);
        }
        DUE.is("24: count(9) of the model", x.count(9), all);
    }

    private static void figuresStay() {
        AbbeyHours x = new AbbeyHours();
        x.monk(true, 0);
        x.gift(true, 0, true);
        x.store(100);
        x.day();
        x.feast(0, 4);
        Due.takeRule(x, "feed 50;");
        x.store(5);
        x.day();
        row("what came later changes nothing", x, 0, 2, 0, 90, 1, 1);
        row("the day behind", x, 1, 50, 0, 90, 1, 0);
    }
}
