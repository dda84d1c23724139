/** Promise 13: fasts and feed by the rule in force. */
public final class FastTest {
    private static final Due DUE = new Due();

    public static void main(String[] args) {
        withoutRule();
        weekdays();
        spans();
        feastsAboveFasts();
        firstThatIsTold();
        lastOfEachKind();
        inForce();
        rulesOfSixteenStatements();
        DUE.end();
    }

    private static void row(String of, AbbeyHours x, int day, int... due) {
        for (int what = 0; what < due.length; what++) {
            DUE.is("13: " + of + ": fast(" + day + ", " + what + ")", x.fast(day, what), due[what]);
        }
    }

    private static void withoutRule() {
        AbbeyHours x = new AbbeyHours();
        row("no rule", x, 0, 0, 2, 3, -1);
        row("no rule", x, 1094, 0, 2, 3, -1);
        row("no such day", x, -1, -1, -1, -1, -1);
        row("no such day", x, 1095, -1, -1, -1, -1);
        DUE.is("13: fast(0, -1)", x.fast(0, -1), -1);
        DUE.is("13: fast(0, 4)", x.fast(0, 4), -1);
    }

    private static void weekdays() {
        AbbeyHours x = new AbbeyHours();
        Due.takeRule(x, "fast weekday 3; fast weekday 7; feed fast 1; feed 5;");
        row("weekday", x, 3, 1, 1, 3, 0);
        row("weekday", x, 0, 0, 5, 3, 0);
        row("weekday", x, 7, 0, 5, 3, 0);
        row("weekday", x, 10, 1, 1, 3, 0);
        // Weekdays go on over the year's end: 367 is 52 weeks and 3 days.
        row("weekday", x, 367, 1, 1, 3, 0);
        row("weekday", x, 368, 0, 5, 3, 0);
    }

    private static void spans() {
        AbbeyHours x = new AbbeyHours();
        Due.takeRule(x, "fast from 10 to 12; fast from 360 to 2; fast from 50 to 50; fast from 300 to 310;");
        int[] fasts = {10, 11, 12, 360, 364, 365, 366, 367, 0, 2, 50, 375, 725, 730, 1094, 300, 310};
        int[] others = {9, 13, 359, 3, 368, 49, 51, 724, 733, 299, 311};
        for (int day : fasts) {
            DUE.is("13: span: fast(" + day + ", 0)", x.fast(day, 0), 1);
        }
        for (int day : others) {
            DUE.is("13: span: fast(" + day + ", 0)", x.fast(day, 0), 0);
        }
        Due.takeRule(x, "fast from 364 to 999;fast from 700 to 1;");
        row("beyond all days", x, 364, 1);
        row("beyond all days", x, 1, 1);
        row("beyond all days", x, 2, 0);
        row("beyond all days", x, 363, 0);
    }

    private static void feastsAboveFasts() {
        AbbeyHours x = new AbbeyHours();
        Due.takeRule(x, "fast from 0 to 364;");
        x.feast(1, 1);
        x.feast(2, 2);
        x.feast(3, 3);
        x.feast(4, 4);
        x.feast(4, 3);
        int[] due = {1, 1, 1, 0, 0, 0, 1};
        for (int day = 0; day < due.length; day++) {
            DUE.is("13: feast: fast(" + day + ", 0)", x.fast(day, 0), due[day]);
            DUE.is("13: feast, a year on", x.fast(day + 365, 0), due[day]);
        }
    }

    private static void firstThatIsTold() {
        AbbeyHours x = new AbbeyHours();
        x.feast(1, 2);
        x.feast(2, 3);
        Due.takeRule(x, "fast from 0 to 364; feed rank 2 20; feed rank 3 30; feed 7;");
        row("no feed fast", x, 0, 1, 7, 3, 0);
        row("no feed fast", x, 1, 1, 20, 3, 0);
        row("no feed fast", x, 2, 0, 30, 3, 0);
        Due.takeRule(x, "fast from 0 to 364; feed fast 0; feed rank 2 20; feed rank 4 30; feed 7;");
        row("feed fast", x, 0, 1, 0, 3, 1);
        row("feed fast", x, 1, 1, 0, 3, 1);
        row("another rank", x, 2, 0, 7, 3, 1);
        Due.takeRule(x, "fast from 0 to 1; feed fast 9; feed rank 0 8; feed guest 0;");
        row("no feed", x, 0, 1, 9, 0, 2);
        row("no feed", x, 2, 0, 2, 0, 2);
        row("rank 0 is none", x, 3, 0, 2, 0, 2);
        Due.takeRule(x, "feed rank 0 8; feed fast 9;");
        row("neither head nor guest", x, 3, 0, 2, 3, 3);
        Due.takeRule(x, "feed 8;");
        row("a head is no guest", x, 3, 0, 8, 3, 4);
        Due.takeRule(x, "feed guest 8;");
        row("a guest is no head", x, 3, 0, 2, 8, 5);
    }

    private static void lastOfEachKind() {
        AbbeyHours x = new AbbeyHours();
        x.feast(1, 1);
        Due.takeRule(x, "feed 3; feed guest 11; feed fast 5; feed rank 1 8; fast weekday 0;"
                + "feed 4; feed guest 12; feed fast 6; feed rank 1 9; feed rank 2 10;");
        row("last", x, 0, 1, 6, 12, 0);
        row("last", x, 1, 0, 9, 12, 0);
        row("last", x, 2, 0, 4, 12, 0);
    }

    private static void rulesOfSixteenStatements() {
        AbbeyHours x = new AbbeyHours();
        for (int i = 0; i < 10; i++) {
            StringBuilder text = new StringBuilder("fast from ").append(i).append(" to ").append(i).append(";");
            for (int k = 0; k < 14; k++) {
                text.append("feed guest ").append(k).append(";");
            }
            text.append("feed ").append(100 + i).append(";");
            DUE.is("11: rule " + i, Due.takeRule(x, text.toString()), i);
            x.day();
        }
        for (int i = 0; i < 10; i++) {
            row("each by its own statements", x, i, 1, 100 + i, 13, i);
        }
        row("each by its own statements", x, 10, 0, 109, 13, 9);
        AbbeyHours y = new AbbeyHours();
        Due.takeRule(y, "feed 1;feed 1;feed 1;feed 1;feed 1;feed 1;feed 1;feed 1;"
                + "feed 1;feed 1;feed 1;feed 1;feed 1;feed 1;feed 1;feed 1;");
        y.day();
        Due.takeRule(y, "fast weekday 0;feed guest 9;");
        row("not by the next one's", y, 0, 0, 1, 3, 0);
    }

    private static void inForce() {
        AbbeyHours x = new AbbeyHours();
        Due.goBy(x, 2);
        Due.takeRule(x, "feed 10;");
        Due.goBy(x, 2);
        Due.takeRule(x, "feed 11;");
        Due.takeRule(x, "feed guest 12;");
        row("ahead of all", x, 1, 0, 2, 3, -1);
        row("the first", x, 2, 0, 10, 3, 0);
        row("the first", x, 3, 0, 10, 3, 0);
        row("the last of a day", x, 4, 0, 2, 12, 2);
        row("till the end", x, 1094, 0, 2, 12, 2);
    }
}
