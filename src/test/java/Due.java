/** Compares answers with those that are due, and ends a test as ../shared/tests' do. */
final class Due {
    private int wrong;

    void is(String call, long got, long want) {
        if (got != want) {
            wrong++;
            System.out.println(call + " answered " + got + ", due is " + want);
        }
    }

    void holds(String what, boolean asDue) {
        if (!asDue) {
            wrong++;
            System.out.println(what);
        }
    }

    void end() {
        System.out.println(wrong == 0 ? "all answers are as due" : wrong + " answers are not as due");
        if (wrong != 0) {
            System.exit(1);
        }
    }

    /** Feeds a text, with blanks behind it up to a multiple of twenty bytes: the last answer. */
    static int feedText(AbbeyHours x, String text) {
        StringBuilder padded = new StringBuilder(text);
        while (padded.length() % 20 != 0) {
            padded.append(' ');
        }
        int answer = x.count(10);
        for (int i = 0; i < padded.length(); i += 20) {
            answer = x.feed(four(padded, i), four(padded, i + 4), four(padded, i + 8),
                    four(padded, i + 12), four(padded, i + 16));
        }
        return answer;
    }

    /** Feeds a text to an empty tape and makes it the rule. */
    static int takeRule(AbbeyHours x, String text) {
        feedText(x, text);
        return x.rule(text.length());
    }

    static void goBy(AbbeyHours x, int days) {
        for (int i = 0; i < days; i++) {
            x.day();
        }
    }

    private static int four(CharSequence text, int at) {
        int bits = 0;
        for (int i = at; i < at + 4; i++) {
            bits = bits << 8 | text.charAt(i) & 255;
        }
        return bits;
    }
}
