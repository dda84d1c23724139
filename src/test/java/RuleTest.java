/** Promises 10, 11 and 12: the tape, the rule and its fault. */
public final class RuleTest {
    private static final Due DUE = new Due();

    public static void main(String[] args) {
        tape();
        bytesOfEachNumber();
        taken();
        faults();
        statements();
        textEndsInsideAToken();
        refused();
        tenRules();
        DUE.end();
    }

    private static void tape() {
        AbbeyHours x = new AbbeyHours();
        for (int i = 1; i <= 30; i++) {
            DUE.is("10: feed " + i, x.feed(0, 0, 0, 0, 0), 20 * i);
        }
        DUE.is("10: feed 31", x.feed(0, 0, 0, 0, 0), -1);
        DUE.is("10: count(10)", x.count(10), 600);
        DUE.is("10: rule(600) of zeros", x.rule(600), -1);
        DUE.is("10: its fault", x.fault(), 0);
        DUE.is("10: empty then", x.feed(1, 2, 3, 4, 5), 20);
    }

    private static void bytesOfEachNumber() {
        AbbeyHours x = new AbbeyHours();
        // "feed", " gue", "st 1", "23; ", and a byte above 127 that begins no token.
        x.feed(0x66656564, 0x20677565, 0x73742031, 0x32333b20, 0x20ff2020);
        DUE.is("10: rule(20)", x.rule(20), -1);
        DUE.is("10: fault", x.fault(), 17);
        x.feed(0x66656564, 0x20677565, 0x73742031, 0x32333b20, 0x20ff2020);
        DUE.is("10: rule(17)", x.rule(17), 0);
        DUE.is("10: fast(0, 2)", x.fast(0, 2), 123);
    }

    private static void taken() {
        AbbeyHours x = new AbbeyHours();
        DUE.is("11: rule(0)", x.rule(0), 0);
        DUE.is("12: fault()", x.fault(), -1);
        DUE.is("11: all kinds", Due.takeRule(x, "fast weekday 1;fast from 2 to 3;feed fast 4;"
                + "feed rank 5 6;feed guest 7;feed 8;"), 1);
        DUE.is("11: tape", x.count(10), 0);
        DUE.is("11: blanks and none", Due.takeRule(x, " \n feed5;fast\nweekday\n\n6 ; \n"), 2);
        DUE.is("11: only blanks", Due.takeRule(x, "  \n "), 3);
        Due.feedText(x, "feed 7; x and more than twenty bytes");
        DUE.is("11: the first bytes alone", x.rule(7), 4);
        DUE.is("11: fast(0, 1)", x.fast(0, 1), 7);
        DUE.is("11: the tape is empty", x.count(10), 0);
        DUE.is("11: any number of three digits", Due.takeRule(x, "fast weekday 999;"
                + "fast from 998 to 0;feed rank 000 1;"), 5);
        DUE.is("11: count(6)", x.count(6), 6);
    }

    private static void fault(String text, int place) {
        AbbeyHours x = new AbbeyHours();
        DUE.is("11: rule of '" + text + "'", Due.takeRule(x, text), -1);
        DUE.is("12: fault of '" + text + "'", x.fault(), place);
        DUE.is("11: count(6) of '" + text + "'", x.count(6), 0);
        DUE.is("11: count(10) of '" + text + "'", x.count(10), 0);
    }

    private static void faults() {
        fault("f", 0);
        fault(" Fast weekday 1;", 1);
        fault("fasts weekday 1;", 0);
        fault("xast weekday 1;", 0);
        fault("fest weekday 1;", 0);
        fault("feedz 1;", 0);
        fault("feeda 1;", 0);
        fault("feed`1;", 4);
        fault("feed{1;", 4);
        fault("feed /1;", 5);
        fault("feed :1;", 5);
        fault("fastweekday 1;", 0);
        fault("fast", 4);
        fault("fast  ", 6);
        fault("fast 1;", 5);
        fault("fast weekday", 12);
        fault("fast weekday ;", 13);
        fault("fast weekday 1", 14);
        fault("fast weekday 1 2;", 15);
        fault("fast weekday 1234;", 13);
        fault("fast weekday 0001;", 13);
        fault("fast from to 3;", 10);
        fault("fast from 1 ;", 12);
        fault("fast from 1 feed 3;", 12);
        fault("feed from 1 to 3;", 5);
        fault("feed to 3;", 5);
        fault("fast guest 3;", 5);
        fault("fast rank 1 3;", 5);
        fault("fast from 1 3;", 12);
        fault("fast from 1 to ;", 15);
        fault("fast from 1 to 2 fast", 17);
        fault("fast to 1 from 2;", 5);
        fault("feed", 4);
        fault("feed;", 4);
        fault("feed weekday 1;", 5);
        fault("feed feed 1;", 5);
        fault("feed fast;", 9);
        fault("feed fast guest 1;", 10);
        fault("feed rank 1;", 11);
        fault("feed rank 1 2 3;", 14);
        fault("feed guest;", 10);
        fault("feed guest 1 2;", 13);
        fault("feed 1 2;", 7);
        fault("feed 1x;", 6);
        fault("feed -1;", 5);
        fault("feed 1;;", 7);
        fault("; feed 1;", 0);
        fault("feed 1;\tfeed 2;", 7);
        fault("feed 1;\rfeed 2;", 7);
        fault("feed 1; feed 2; food 3;", 16);
        fault("weekday 1;", 0);
        fault("1;", 0);
    }

    private static String times(int n, String statement) {
        StringBuilder text = new StringBuilder();
        for (int i = 0; i < n; i++) {
            text.append(statement);
        }
        return text.toString();
    }

    private static void statements() {
        AbbeyHours x = new AbbeyHours();
        DUE.is("11: 16 statements", Due.takeRule(x, times(16, "feed 1;") + "  "), 0);
        AbbeyHours y = new AbbeyHours();
        DUE.is("11: 16 long statements", Due.takeRule(y, times(16, "fast from 1 to 2;")), 0);
        fault(times(16, "fast from 1 to 2;") + "fast from 1 to 2;", 272);
        fault(times(16, "fast from 1 to 2;") + "\n;;;;", 273);
        fault(times(15, "fast from 1 to 2;") + "fast from 1 to 2", 271);
        fault(times(600, ";"), 0);
        fault("feed" + times(298, " 7"), 7);
        fault(times(17, "feed 1;"), 112);
        fault(times(16, "feed 1;") + "  feed 1;", 114);
        fault(times(16, "feed 1;") + " fast", 113);
        fault(times(16, "feed 1;") + " %", 113);
        fault(times(15, "feed 1;") + "feed 1", 111);
    }

    private static void textEndsInsideAToken() {
        AbbeyHours x = new AbbeyHours();
        Due.feedText(x, "feed 12;");
        DUE.is("11: rule(6) of 'feed 12;'", x.rule(6), -1);
        DUE.is("12: its fault", x.fault(), 6);
        Due.feedText(x, "feed 1234;");
        DUE.is("11: rule(8) of 'feed 1234;'", x.rule(8), -1);
        DUE.is("12: its fault", x.fault(), 8);
        Due.feedText(x, "feeds");
        DUE.is("11: rule(4) of 'feeds'", x.rule(4), -1);
        DUE.is("12: its fault", x.fault(), 4);
        Due.feedText(x, "feed 7; fast");
        DUE.is("11: rule(10) of 'feed 7; fast'", x.rule(10), -1);
        DUE.is("12: its fault", x.fault(), 8);
    }

    private static void refused() {
        AbbeyHours x = new AbbeyHours();
        DUE.is("11: rule(1) of nothing", x.rule(1), -2);
        DUE.is("11: rule(-1)", x.rule(-1), -2);
        Due.takeRule(x, "feed");
        Due.feedText(x, "feed 1;");
        DUE.is("11: rule(21)", x.rule(21), -2);
        DUE.is("11: rule(min)", x.rule(Integer.MIN_VALUE), -2);
        DUE.is("11: the tape stays", x.count(10), 20);
        DUE.is("12: the fault stays", x.fault(), 4);
        DUE.is("11: rule(20)", x.rule(20), 0);
        DUE.is("12: no fault", x.fault(), -1);
    }

    private static void tenRules() {
        AbbeyHours x = new AbbeyHours();
        for (int i = 0; i < 10; i++) {
            DUE.is("11: rule " + i, Due.takeRule(x, "feed " + (i + 10) + ";"), i);
            DUE.is("11: a fault is no rule", Due.takeRule(x, i < 9 ? "feed x;" : ""), i < 9 ? -1 : -3);
        }
        DUE.is("12: fault() of the tenth", x.fault(), -1);
        DUE.is("11: the eleventh", Due.takeRule(x, "feed 1;"), -3);
        DUE.is("11: the eleventh with a fault", x.rule(3), -3);
        DUE.is("11: n is wrong and there are 10", x.rule(21), -2);
        DUE.is("12: fault() stays", x.fault(), -1);
        DUE.is("11: the tape stays", x.count(10), 20);
        DUE.is("11: in force", x.fast(0, 1), 19);
        DUE.is("11: count(6)", x.count(6), 10);
    }
}
