/** Promises 7, 8 and 9: light, offices, and bells that are late. */
public final class OfficesTest {
    private static final Due DUE = new Due();

    public static void main(String[] args) {
        light();
        offices();
        lateMovesOneOfficeOfOneDay();
        lateKeepsTheOrder();
        wrongLates();
        hundredLates();
        DUE.end();
    }

    private static void light() {
        AbbeyHours x = new AbbeyHours();
        int[] days = {0, 1, 171, 172, 173, 174, 353, 354, 355, 356, 364};
        int[] due = {506, 509, 957, 960, 958, 955, 486, 483, 480, 482, 503};
        for (int i = 0; i < days.length; i++) {
            int rise = 720 - due[i] / 2;
            DUE.is("7: light(" + days[i] + ", 0)", x.light(days[i], 0), due[i]);
            DUE.is("7: light(" + days[i] + ", 1)", x.light(days[i], 1), rise);
            DUE.is("7: light(" + days[i] + ", 2)", x.light(days[i], 2), rise + due[i]);
        }
        DUE.is("7: odd light leaves the later half longer", x.light(1, 1), 466);
        DUE.is("7: light(1, 2)", x.light(1, 2), 975);
        DUE.is("7: light(-1, 0)", x.light(-1, 0), -1);
        DUE.is("7: light(365, 0)", x.light(365, 0), -1);
        DUE.is("7: light(0, -1)", x.light(0, -1), -1);
        DUE.is("7: light(0, 3)", x.light(0, 3), -1);
        DUE.is("7: light(min, 0)", x.light(Integer.MIN_VALUE, 0), -1);
    }

    private static void row(AbbeyHours x, int day, int... due) {
        for (int k = 0; k < due.length; k++) {
            DUE.is("8: office(" + day + ", " + k + ")", x.office(day, k), due[k]);
        }
    }

    private static void offices() {
        AbbeyHours x = new AbbeyHours();
        row(x, 0, 155, 407, 467, 593, 720, 846, 930, 1128);
        row(x, 172, 80, 180, 240, 480, 720, 960, 1120, 1280);
        row(x, 355, 160, 420, 480, 600, 720, 840, 920, 1120);
        // Light 509 from 466 to 975: 127 by 3, 254 by 6, 381 by 9, 466 by 11 twelfths.
        row(x, 1, 155, 406, 466, 593, 720, 847, 932, 1130);
        row(x, 366, 155, 406, 466, 593, 720, 847, 932, 1130);
        // Day 1,094 is day 364 of the year: light 503 from 469 to 972.
        row(x, 1094, 156, 409, 469, 594, 720, 846, 930, 1128);
        DUE.is("8: office(-1, 0)", x.office(-1, 0), -1);
        DUE.is("8: office(1095, 0)", x.office(1095, 0), -1);
        DUE.is("8: office(0, -1)", x.office(0, -1), -1);
        DUE.is("8: office(0, 8)", x.office(0, 8), -1);
    }

    private static void lateMovesOneOfficeOfOneDay() {
        AbbeyHours x = new AbbeyHours();
        DUE.is("9: late(172, 4, 100)", x.late(172, 4, 100), 820);
        row(x, 172, 80, 180, 240, 480, 820, 960, 1120, 1280);
        DUE.is("9: the year behind", x.office(537, 4), 720);
        DUE.is("9: the day behind", x.office(173, 4), 720);
        DUE.is("9: in place of what was told", x.late(172, 4, 1), 721);
        DUE.is("9: office(172, 4)", x.office(172, 4), 721);
        DUE.is("9: late(172, 7, 120)", x.late(172, 7, 120), 1400);
        DUE.is("9: late(172, 0, 99)", x.late(172, 0, 99), 179);
    }

    private static void lateKeepsTheOrder() {
        AbbeyHours x = new AbbeyHours();
        DUE.is("9: at the next one", x.late(0, 1, 60), -1);
        DUE.is("9: behind the next one", x.late(0, 1, 61), -1);
        DUE.is("9: ahead of the next one", x.late(0, 1, 59), 466);
        DUE.is("9: nothing done by NONE", x.late(0, 1, 60), -1);
        DUE.is("9: office(0, 1)", x.office(0, 1), 466);
        DUE.is("9: late(0, 2, 30)", x.late(0, 2, 30), 497);
        DUE.is("9: by the next one as it is moved", x.late(0, 1, 89), 496);
        DUE.is("9: at the moved one", x.late(0, 1, 90), -1);
        DUE.is("9: ahead of the one ahead", x.late(0, 2, 28), -1);
        DUE.is("9: at the one ahead", x.late(0, 2, 29), -1);
        DUE.is("9: behind the one ahead", x.late(0, 2, 31), 498);
        DUE.is("9: office(0, 2)", x.office(0, 2), 498);
    }

    private static void wrongLates() {
        AbbeyHours x = new AbbeyHours();
        DUE.is("9: late(0, -1, 5)", x.late(0, -1, 5), -1);
        DUE.is("9: late(0, 8, 5)", x.late(0, 8, 5), -1);
        DUE.is("9: late(0, 3, 0)", x.late(0, 3, 0), -1);
        DUE.is("9: late(0, 3, 121)", x.late(0, 3, 121), -1);
        DUE.is("9: late(-1, 3, 5)", x.late(-1, 3, 5), -1);
        DUE.is("9: late(1095, 3, 5)", x.late(1095, 3, 5), -1);
        DUE.is("9: late(1094, 3, 5)", x.late(1094, 3, 5), 599);
        Due.goBy(x, 2);
        DUE.is("9: late(1, 3, 5) on day 2", x.late(1, 3, 5), -1);
        DUE.is("9: late(2, 3, 5) on day 2", x.late(2, 3, 5), x.office(367, 3) + 5);
    }

    private static void hundredLates() {
        AbbeyHours x = new AbbeyHours();
        for (int i = 0; i < 100; i++) {
            int day = 10 + i / 8;
            int k = i % 8;
            DUE.is("9: row " + i, x.late(day, k, 2), x.office(day + 365, k) + 2);
            DUE.is("9: anew, which is no row more", x.late(10, 0, 1 + i % 9), 
                    i == 99 ? -1 : x.office(375, 0) + 1 + i % 9);
        }
        DUE.is("9: the 101st", x.late(200, 4, 2), -1);
        DUE.is("9: office(200, 4)", x.office(200, 4), 720);
        DUE.is("9: one in place of another", x.late(10, 4, 3), -1);
        DUE.is("9: office(10, 4)", x.office(10, 4), 722);
    }
}
