import java.util.Arrays;

/** Promises 10, 11 and 12 at their edges, with THE RULE's text of the terms, a method for each sentence. */
public final class RuleEdgesTest {
    private static final int NONE = AbbeyHours.NONE;
    private static final Due DUE = new Due();
    private static final Refusals REFUSED = new Refusals(DUE);

    /** The statements token by token, N being a number. */
    private static final String[][] STATEMENTS = {
        {"fast", "weekday", "N", ";"}, {"fast", "from", "N", "to", "N", ";"}, {"feed", "fast", "N", ";"},
        {"feed", "rank", "N", "N", ";"}, {"feed", "guest", "N", ";"}, {"feed", "N", ";"}};

    /** Tokens, and bytes that begin none, one of which comes where another one must. */
    private static final String[] TOKENS = {"fast", "weekday", "from", "to", "feed", "rank", "guest", "N",
        ";", "1234", "0000", "99999999999", "x", "fas", "fasts", "feeds", "too", "t", "guests", "weekdays",
        "xast", "geed", "xeekday", "xrom", "xo", "xank", "xuest", "fasx", "feex", "weekdax", "frox", "tx", "ranx",
        "guesx", "fbst", "fbed", "%", "\t", "\r", "A", "F", "\0", "-", "\u00ff", "\u00e6", "\u00b7", "\u00bb"};

    public static void main(String[] args) {
        tapeIs600BytesAtMost();
        bytesComeBehindThoseOnTheTape();
        highestByteFirst();
        firstNBytes();
        nIs0ToAllBytes();
        rulesAre10AtMost();
        nIsLookedAtAheadOfTheRules();
        tapeIsEmptyThen();
        faultOfTheLatestRule();
        emptyText();
        blanksAre32And10();
        wordsAreOfLettersAToZ();
        digitsAre0To9();
        tokensAsLongAsTheyGo();
        numbersAreOfOneToThreeDigits();
        wrongTokens();
        moreMustCome();
        faultAtTheFarthestPlaces();
        statementsAre16AtMost();
        theSeventeenthStatement();
        DUE.end();
    }

    private static String times(int n, String text) {
        return text.repeat(n);
    }

    private static void taken(String text) {
        AbbeyHours x = new AbbeyHours();
        DUE.is("11: rule of '" + text + "'", Due.takeRule(x, text), 0);
        DUE.is("12: fault of '" + text + "'", x.fault(), NONE);
    }

    private static void faulty(String text, int place) {
        AbbeyHours x = new AbbeyHours();
        DUE.is("11: rule of '" + text + "'", Due.takeRule(x, text), NONE);
        DUE.is("12: fault of '" + text + "'", x.fault(), place);
        DUE.is("24: rules behind '" + text + "'", x.count(6), 0);
    }

    private static void fullTape(AbbeyHours x) {
        Due.feedText(x, times(593, " ") + "feed 5;");
    }

    private static void tapeIs600BytesAtMost() {
        AbbeyHours x = new AbbeyHours();
        for (int bytes = 20; bytes <= 600; bytes += 20) {
            DUE.is("10: feed up to " + bytes, x.feed(0x20202020, 0x20202020, 0x20202020, 0x20202020, 0x20202020),
                    bytes);
        }
        DUE.is("24: bytes on the tape", x.count(10), 600);
        REFUSED.is("10: feed up to 620", RuleEdgesTest::fullTape, y -> y.feed(1, 2, 3, 4, 5), NONE);
        AbbeyHours full = new AbbeyHours();
        fullTape(full);
        full.feed(0x20202020, 0x20202020, 0x20202020, 0x20202020, 0x20202020);
        DUE.is("11: rule(600) behind a feed that was refused", full.rule(600), 0);
        DUE.is("13: its last bytes hold", full.fast(0, 1), 5);
        DUE.is("10: and there is room again", full.feed(1, 2, 3, 4, 5), 20);
    }

    private static void bytesComeBehindThoseOnTheTape() {
        AbbeyHours x = new AbbeyHours();
        Due.feedText(x, "feed rank           ");
        DUE.is("10: behind them", Due.feedText(x, "4 17 ; feed 8;"), 40);
        x.feast(0, 4);
        DUE.is("11: rule(40)", x.rule(40), 0);
        DUE.is("13: by both", x.fast(0, 1), 17);
        DUE.is("13: by the second", x.fast(1, 1), 8);
    }

    private static void highestByteFirst() {
        AbbeyHours x = new AbbeyHours();
        x.feed('f' << 24 | 'e' << 16 | 'e' << 8 | 'd', '1' << 24 | '2' << 16 | '3' << 8 | ';', -1, 0, 0x20202020);
        DUE.is("11: rule(8)", x.rule(8), 0);
        DUE.is("13: the digits in their order", x.fast(0, 1), 123);
        x.feed(0x20202020, 0x20202020, 0x20202020, 0x20202020, 0x202020ff);
        DUE.is("11: the last byte is the lowest of the last number", x.rule(20), NONE);
        DUE.is("12: its place", x.fault(), 19);
        x.feed(0xff202020, 0x20202020, 0x20202020, 0x20202020, 0x20202020);
        DUE.is("11: the first byte is the highest of the first number", x.rule(20), NONE);
        DUE.is("12: its place", x.fault(), 0);
        x.feed(0x20202020, 0x2020ff20, 0x2020ff20, 0x20202020, 0x20202020);
        DUE.is("11: bytes in the middle", x.rule(20), NONE);
        DUE.is("12: their place", x.fault(), 6);
    }

    private static void firstNBytes() {
        // A word that is cut is another token; one that is whole, or a number, lets more be due.
        int[] fault = {NONE, 0, 0, 0, 4, 5, 6, NONE, NONE, 8, 8, 8, 12, 13, 14, NONE};
        int[] fed = {2, 2, 2, 2, 2, 2, 2, 4, 4, 2, 2, 2, 2, 2, 2, 5};
        for (int n = 0; n < fault.length; n++) {
            AbbeyHours x = new AbbeyHours();
            Due.feedText(x, "feed 4; feed 5; feed 6;");
            DUE.is("11: rule(" + n + ")", x.rule(n), fault[n] == NONE ? 0 : NONE);
            DUE.is("12: fault of the first " + n, x.fault(), fault[n]);
            DUE.is("13: feed by the first " + n, x.fast(0, 1), fed[n]);
        }
        // Bytes behind the first n are no part of a token that they would make longer.
        cut("feed 1234;", 8, 8);
        cut("feed 5;feeds", 11, 11);
        cut("feed 5;fas", 9, 7);
    }

    private static void cut(String text, int n, int fault) {
        AbbeyHours x = new AbbeyHours();
        Due.feedText(x, text);
        DUE.is("11: rule(" + n + ") of '" + text + "'", x.rule(n), NONE);
        DUE.is("12: fault of the first " + n + " of '" + text + "'", x.fault(), fault);
    }

    private static void nIs0ToAllBytes() {
        DUE.is("11: rule(0) of an empty tape", new AbbeyHours().rule(0), 0);
        REFUSED.is("11: rule(1) of an empty tape", Refusals::fresh, x -> x.rule(1), -2);
        REFUSED.is("11: rule(-1)", x -> x.rule(-1), -2);
        REFUSED.is("11: rule(min)", x -> x.rule(Integer.MIN_VALUE), -2);
        REFUSED.is("11: rule(max)", x -> x.rule(Integer.MAX_VALUE), -2);
        AbbeyHours busy = new AbbeyHours();
        Refusals.busy(busy);
        DUE.is("11: rule(40) of 40 bytes", busy.rule(40), 1);
        REFUSED.is("11: rule(41) of 40 bytes", Refusals::busy, x -> x.rule(41), -2);
        AbbeyHours full = new AbbeyHours();
        fullTape(full);
        DUE.is("11: rule(600) of 600 bytes", full.rule(600), 0);
        REFUSED.is("11: rule(601) of 600 bytes", RuleEdgesTest::fullTape, x -> x.rule(601), -2);
    }

    /** Ten rules of ten days: a change of any one would show. */
    private static void tenRules(AbbeyHours x) {
        for (int i = 0; i < 10; i++) {
            Due.takeRule(x, "feed " + (i + 10) + ";");
            x.day();
        }
        Due.feedText(x, "feed 77;");
    }

    private static void rulesAre10AtMost() {
        AbbeyHours x = new AbbeyHours();
        for (int i = 0; i < 10; i++) {
            DUE.is("11: rule " + i, Due.takeRule(x, "feed " + (i + 10) + ";"), i);
        }
        DUE.is("24: rules", x.count(6), 10);
        DUE.is("13: the tenth is in force", x.fast(0, 1), 19);
        REFUSED.is("11: the eleventh", RuleEdgesTest::tenRules, y -> y.rule(8), -3);
        REFUSED.is("11: the eleventh, an empty one", RuleEdgesTest::tenRules, y -> y.rule(0), -3);
        REFUSED.is("11: the eleventh, with a fault", RuleEdgesTest::tenRules, y -> y.rule(3), -3);
        REFUSED.is("11: the eleventh on one day", y -> {
            for (int i = 0; i < 10; i++) {
                y.rule(0);
            }
        }, y -> y.rule(0), -3);
    }

    private static void nIsLookedAtAheadOfTheRules() {
        REFUSED.is("11: n is -1 and there are 10", RuleEdgesTest::tenRules, x -> x.rule(-1), -2);
        REFUSED.is("11: n is 21 of 20 and there are 10", RuleEdgesTest::tenRules, x -> x.rule(21), -2);
    }

    private static void tapeIsEmptyThen() {
        AbbeyHours x = new AbbeyHours();
        Due.feedText(x, "feed 4; feed 5; feed 6;");
        DUE.is("11: a number", x.rule(7), 0);
        DUE.is("24: bytes behind a number", x.count(10), 0);
        DUE.is("10: feed behind a number", Due.feedText(x, "feed 4; feed"), 20);
        DUE.is("11: a fault", x.rule(12), NONE);
        DUE.is("24: bytes behind a fault", x.count(10), 0);
        DUE.is("10: feed behind a fault", Due.feedText(x, "feed 9;"), 20);
        DUE.is("11: an empty text", x.rule(0), 1);
        DUE.is("24: bytes behind an empty text", x.count(10), 0);
        DUE.is("11: nothing is left", x.rule(1), -2);
    }

    private static void faultOfTheLatestRule() {
        AbbeyHours x = new AbbeyHours();
        DUE.is("12: ahead of all rules", x.fault(), NONE);
        Due.takeRule(x, "feed x;");
        DUE.is("12: of a fault", x.fault(), 5);
        DUE.is("12: asked again", x.fault(), 5);
        x.rule(1);
        DUE.is("12: behind one that was refused", x.fault(), 5);
        Due.feedText(x, "feed");
        DUE.is("12: behind a feed", x.fault(), 5);
        x.rule(4);
        DUE.is("12: of the next fault", x.fault(), 4);
        Due.takeRule(x, "feed 1;");
        DUE.is("12: of a number", x.fault(), NONE);
        x.rule(-1);
        DUE.is("12: behind one that was refused then", x.fault(), NONE);
        Due.takeRule(x, "x");
        DUE.is("12: at the first byte", x.fault(), 0);
        x.day();
        DUE.is("12: on the next day", x.fault(), 0);
    }

    private static void emptyText() {
        AbbeyHours x = new AbbeyHours();
        Due.takeRule(x, "fast weekday 0; feed 9; feed guest 8;");
        DUE.is("11: rule(0)", x.rule(0), 1);
        DUE.is("12: its fault", x.fault(), NONE);
        DUE.is("13: it's in force", x.fast(0, 3), 1);
        DUE.is("13: without a fast", x.fast(0, 0), 0);
        DUE.is("13: without a feed", x.fast(0, 1), 2);
        DUE.is("13: without a feed of guests", x.fast(0, 2), 3);
        taken(" ");
        taken("\n");
        taken(times(600, " "));
    }

    private static void blanksAre32And10() {
        for (int b = 0; b < 256; b++) {
            String text = "feed 7;" + (char) b;
            if (b == 32 || b == 10) {
                taken(text);
                taken((char) b + "feed" + (char) b + "7" + (char) b + ";");
                taken(times(30, String.valueOf((char) b)));
            } else {
                faulty(text, 7);
                faulty(String.valueOf((char) b), 0);
            }
        }
    }

    private static void wordsAreOfLettersAToZ() {
        for (int b = 0; b < 256; b++) {
            String text = "feed" + (char) b + "7;";
            if (b >= 'a' && b <= 'z') {
                faulty(text, 0);
            } else if (b == 32 || b == 10 || b >= '0' && b <= '9') {
                taken(text);
            } else {
                faulty(text, 4);
            }
        }
    }

    private static void digitsAre0To9() {
        for (int b = 0; b < 256; b++) {
            String text = "feed 4" + (char) b + ";";
            if (b >= '0' && b <= '9') {
                AbbeyHours x = new AbbeyHours();
                DUE.is("11: rule of '" + text + "'", Due.takeRule(x, text), 0);
                DUE.is("13: feed of '" + text + "'", x.fast(0, 1), 40 + b - '0');
            } else if (b == 32 || b == 10) {
                taken(text);
            } else {
                faulty(text, b == ';' ? 7 : 6);
            }
        }
    }

    private static void tokensAsLongAsTheyGo() {
        faulty("fastweekday 1;", 0);
        faulty("feedfast 1;", 0);
        faulty("feed guestx 1;", 5);
        faulty("feed rank1 2fast;", 12);
        faulty("feed fas t 1;", 5);
        faulty("feed 1 2;", 7);
        taken("feed5;feed fast6;feed rank1 2;fast from1to2;fast weekday3;feed guest4;");
    }

    private static void numbersAreOfOneToThreeDigits() {
        String[] numbers = {"0", "7", "00", "10", "99", "000", "007", "100", "999"};
        int[] values = {0, 7, 0, 10, 99, 0, 7, 100, 999};
        for (int i = 0; i < numbers.length; i++) {
            AbbeyHours x = new AbbeyHours();
            Due.takeRule(x, "feed " + numbers[i] + ";");
            DUE.is("13: feed " + numbers[i], x.fast(0, 1), values[i]);
        }
        faulty("feed ;", 5);
        faulty("feed 1000;", 5);
        faulty("feed 0001;", 5);
        faulty("feed " + times(595, "1"), 5);
        faulty("fast from 1 to 1000;", 15);
        faulty("feed rank 1000 1;", 10);
        faulty("feed rank 1 1000;", 12);
    }

    private static boolean goesOn(String[] tokens, int size, String next) {
        for (String[] statement : STATEMENTS) {
            if (size < statement.length && statement[size].equals(next)
                    && Arrays.equals(tokens, 0, size, statement, 0, size)) {
                return true;
            }
        }
        return false;
    }

    /** Statement ahead of the faulty one, a rule's first bytes. */
    private static final String[] AHEAD = {"", " ", "feed 1;", "fast from 3 to 4 ;\n"};

    private static String spelled(String[] tokens, int size, String gap) {
        StringBuilder text = new StringBuilder();
        for (int i = 0; i < size; i++) {
            text.append(tokens[i].equals("N") ? "12" : tokens[i]).append(gap);
        }
        return text.toString();
    }

    private static void wrongTokens() {
        for (String[] statement : STATEMENTS) {
            for (int size = 0; size < statement.length; size++) {
                for (String token : TOKENS) {
                    if (!goesOn(statement, size, token)) {
                        wrongToken(statement, size, token.equals("N") ? "34" : token);
                    }
                }
            }
        }
    }

    private static void wrongToken(String[] statement, int size, String token) {
        for (String ahead : AHEAD) {
            for (String gap : new String[] {" ", "\n \n"}) {
                String text = ahead + spelled(statement, size, gap);
                faulty(text + token, text.length());
                faulty(text + token + " ; feed 1;", text.length());
            }
        }
    }

    private static void moreMustCome() {
        for (String[] statement : STATEMENTS) {
            for (int size = 1; size < statement.length; size++) {
                for (String ahead : AHEAD) {
                    String text = ahead + spelled(statement, size, " ");
                    faulty(text, text.length());
                    faulty(text.substring(0, text.length() - 1), text.length() - 1);
                    faulty(text + " \n  ", text.length() + 4);
                }
            }
            taken(spelled(statement, statement.length, " "));
        }
    }

    private static void faultAtTheFarthestPlaces() {
        faulty(times(599, " ") + "x", 599);
        faulty(times(599, " ") + "\u00ff", 599);
        faulty(times(596, " ") + "feed", 600);
        faulty("feed" + times(596, " "), 600);
        taken(times(593, "\n") + "feed 5;");
    }

    private static void statementsAre16AtMost() {
        for (String[] statement : STATEMENTS) {
            taken(times(16, spelled(statement, statement.length, " ")));
        }
        taken(times(16, "feed 1;") + " \n ");
        AbbeyHours x = new AbbeyHours();
        Due.takeRule(x, times(15, "feed 1;") + "feed 16;");
        DUE.is("13: the 16th holds", x.fast(0, 1), 16);
    }

    private static void theSeventeenthStatement() {
        for (String[] statement : STATEMENTS) {
            String text = times(16, spelled(statement, statement.length, " "));
            faulty(text + "feed 1;", text.length());
            faulty(text + " \n fast weekday 1;", text.length() + 3);
        }
        String text = times(16, "feed 1;");
        faulty(text + "feed", 112);
        faulty(text + "feed x;", 112);
        faulty(text + "fast from 1 to", 112);
        faulty(text + ";", 112);
        faulty(text + "\u00ff", 112);
        faulty(times(17, "feed 1;") + "x", 112);
        // A fault ahead of it is the first one.
        faulty(times(15, "feed 1;") + "feed x;" + "feed 1;", 110);
        faulty(times(15, "feed 1;") + "feed 1", 111);
    }
}
