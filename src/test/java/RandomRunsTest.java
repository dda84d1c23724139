import java.util.ArrayList;
import java.util.Arrays;
import java.util.List;
import java.util.Random;

/**
 * All promises at once: runs of 512 calls, made up with fixed seeds, on AbbeyHours and on
 * PlainAbbey, which must answer alike. The calls keep to a few days of the year around its ends, so
 * that feasts, fasts, late bells, leave and failures meet on the same days.
 */
public final class RandomRunsTest {
    private static final int CALLS = 512;
    private static final int KINDS = 23;
    private static final int LATE = 3;
    private static final int STORE = 8;
    private static final int DAY = 11;
    private static final int OFTEN = 40;
    private static final String[] PIECES = {"fast weekday 0;", "fast weekday 3; ", "fast weekday 6;\n",
        "fast from 2 to 9;", "fast from 360 to 4 ;", "fast from 7 to 7;", "feed fast 1;", "feed fast 0; ",
        "feed rank 1 4;", "feed rank 2 5;", "feed rank 3 6; ", "feed rank 4 7;", "feed 3;", "feed 007; ",
        "feed guest 9;", "feed guest 0;"};
    private static final String[] SCRAPS = {"fast", " ", "weekday ", "from ", " to ", "feed ", "rank ", "guest ",
        "1", "23 ", "999 ", "1000 ", ";", ";;", "\n", "x", "Feed", "fasts ", "\t", "\u00ff", "weekday8", "feed rank 2"};
    private static final int[] FAR = {-2, -1, 364, 365, 366, 729, 730, 1093, 1094, 1095,
        Integer.MAX_VALUE, Integer.MIN_VALUE};

    private final Random random;
    private final AbbeyHours x = new AbbeyHours();
    private final PlainAbbey plain = new PlainAbbey();
    private final List<String> log = new ArrayList<>();
    /** How often each call is made: every run has calls of its own that it likes, or never makes. */
    private final int[] likes = new int[KINDS];
    /** How often an argument is one that few promises take, of a hundred. */
    private final int oddOfHundred;
    private int calls;
    private boolean alike = true;

    private RandomRunsTest(long seed) {
        random = new Random(seed);
        oddOfHundred = new int[] {0, 3, 15}[random.nextInt(3)];
        for (int kind = 0; kind < KINDS; kind++) {
            likes[kind] = new int[] {0, 2, 2, 4, 4, 8, 8, OFTEN}[random.nextInt(8)];
        }
        likes[DAY] = new int[] {2, 8, 20, OFTEN, 6 * OFTEN}[random.nextInt(5)];
    }

    public static void main(String[] args) {
        int runs = args.length > 1 ? Integer.parseInt(args[1]) : 400;
        int wrong = 0;
        for (int seed = 0; seed < runs && wrong < 5; seed++) {
            RandomRunsTest run = new RandomRunsTest(seed);
            if (!run.isAlike()) {
                wrong++;
                System.out.println("run " + seed + ": " + String.join(" ", run.log));
            }
        }
        System.out.println(wrong == 0 ? "all answers are as due" : wrong + " runs are not as due");
        if (wrong != 0) {
            System.exit(1);
        }
    }

    private boolean isAlike() {
        // Few runs would see the year's end by themselves, so some go there straight away.
        int daysFirst = random.nextInt(4) == 0 ? 355 + random.nextInt(15) : 0;
        for (int i = 0; i < CALLS && alike && calls < CALLS; i++) {
            if (i >= 30 && today() < daysFirst) {
                goBy();
            } else {
                any(liked());
            }
        }
        return alike;
    }

    private void due(String call, int got, int want) {
        calls++;
        // What comes behind the 512th call is free.
        if (!alike || calls > CALLS) {
            return;
        }
        log.add(call + "=" + want);
        if (got != want) {
            alike = false;
            log.add("but it answered " + got);
        }
    }

    private boolean odd() {
        return random.nextInt(100) < oddOfHundred;
    }

    private int upTo(int most) {
        return odd() ? odd(most) : random.nextInt(most + 1);
    }

    private int odd(int most) {
        int which = random.nextInt(FAR.length + 2);
        return which < FAR.length ? FAR[which] : most + which - FAR.length;
    }

    private int dayOfYear() {
        return upTo(100) < 70 ? upTo(11) : 364 - random.nextInt(6);
    }

    private int nearToday() {
        return odd() ? odd(1094) : today() + random.nextInt(9) - random.nextInt(3);
    }

    private int anyDay() {
        return random.nextBoolean() ? nearToday() : dayOfYear() + (odd() ? 365 * random.nextInt(3) : 0);
    }

    /** TODAY, without a call. */
    private int today() {
        return plain.count(0);
    }

    private int liked() {
        int place = random.nextInt(1 + Arrays.stream(likes).sum());
        int kind = 0;
        while (kind < KINDS - 1 && place >= likes[kind]) {
            place -= likes[kind];
            kind++;
        }
        return kind;
    }

    private void any(int which) {
        switch (which) {
            case 0: monk(); break;
            case 1: away(); break;
            case 2: feast(); break;
            case LATE: late(); break;
            case 4: feed(); break;
            case 5: rule(); break;
            case 6: gift(); break;
            case 7: leave(); break;
            case STORE: store(); break;
            case 9: guests(); break;
            case 10: fail(); break;
            case DAY: day(); break;
            default: ask(which); break;
        }
    }

    private void ask(int which) {
        switch (which) {
            case 12: held(); break;
            case 13: when(); break;
            case 14: light(); break;
            case 15: office(); break;
            case 16: due("fault()", x.fault(), plain.fault()); break;
            case 17: fast(); break;
            case 18: giftOf(); break;
            case 19: turn(); break;
            case 20: turns(); break;
            case 21: dayOf(); break;
            default: count(); break;
        }
    }

    private void monk() {
        boolean priest = random.nextBoolean();
        int bars = random.nextInt(3) == 0 ? 0 : upTo(15);
        due("monk(" + priest + ", " + bars + ")", x.monk(priest, bars), plain.monk(priest, bars));
    }

    private void away() {
        int monk = upTo(plain.count(1));
        int from = nearToday();
        int to = odd() ? anyDay() : from + random.nextInt(5);
        due("away(" + monk + ", " + from + ", " + to + ")", x.away(monk, from, to), plain.away(monk, from, to));
    }

    private void feast() {
        int day = dayOfYear();
        int rank = odd() ? odd(5) : 1 + random.nextInt(4);
        due("feast(" + day + ", " + rank + ")", x.feast(day, rank), plain.feast(day, rank));
    }

    private void held() {
        int day = dayOfYear();
        due("held(" + day + ")", x.held(day), plain.held(day));
    }

    private void when() {
        int feast = upTo(plain.count(2));
        due("when(" + feast + ")", x.when(feast), plain.when(feast));
    }

    private void light() {
        int day = odd() ? odd(364) : random.nextInt(365);
        int what = upTo(2);
        due("light(" + day + ", " + what + ")", x.light(day, what), plain.light(day, what));
    }

    private void office() {
        int day = anyDay();
        int k = upTo(7);
        due("office(" + day + ", " + k + ")", x.office(day, k), plain.office(day, k));
    }

    private void late() {
        int day = likes[LATE] == OFTEN ? today() + random.nextInt(40) : nearToday();
        if (random.nextInt(8) == 0) {
            neighbours(day, random.nextInt(7));
        } else {
            late(day, upTo(7), odd() ? odd(120) : 1 + random.nextInt(random.nextBoolean() ? 120 : 30));
        }
    }

    /** A bell that makes room for the one ahead, and is then told anew where that one may be. */
    private void neighbours(int day, int k) {
        late(day, k + 1, 60 + random.nextInt(61));
        late(day, k, 50 + random.nextInt(71));
        late(day, k + 1, 1 + random.nextInt(60));
    }

    private void late(int day, int k, int m) {
        due("late(" + day + ", " + k + ", " + m + ")", x.late(day, k, m), plain.late(day, k, m));
    }

    private void feed() {
        feedText(new String[] {"feed 5;", " ", "fast weekday 1;     ", "feed "}[random.nextInt(4)]);
    }

    private void feedText(String text) {
        for (int i = 0; i < text.length(); i += 20) {
            int[] five = new int[5];
            for (int k = 0; k < 20; k++) {
                five[k / 4] = five[k / 4] << 8 | (i + k < text.length() ? text.charAt(i + k) : ' ');
            }
            due("feed(" + five[0] + ", " + five[1] + ", " + five[2] + ", " + five[3] + ", " + five[4] + ")",
                    x.feed(five[0], five[1], five[2], five[3], five[4]), plain.feed(five));
        }
    }

    private void rule() {
        StringBuilder text = new StringBuilder();
        int pieces = random.nextInt(10) == 0 ? 17 : random.nextInt(7);
        for (int i = 0; i < pieces; i++) {
            text.append(PIECES[random.nextInt(PIECES.length)]);
        }
        if (random.nextInt(3) == 0) {
            spoil(text);
        }
        int n = plain.count(10) + text.length();
        feedText(text.toString());
        n = odd() ? odd(plain.count(10)) : Math.max(0, n - (random.nextInt(4) == 0 ? random.nextInt(25) : 0));
        due("rule(" + n + ")", x.rule(n), plain.rule(n));
        due("fault()", x.fault(), plain.fault());
    }

    private void spoil(StringBuilder text) {
        int at = random.nextInt(text.length() + 1);
        if (random.nextInt(3) == 0 && at < text.length()) {
            text.deleteCharAt(at);
        } else {
            text.insert(at, SCRAPS[random.nextInt(SCRAPS.length)]);
        }
    }

    private void fast() {
        int day = anyDay();
        int what = upTo(3);
        due("fast(" + day + ", " + what + ")", x.fast(day, what), plain.fast(day, what));
    }

    private void gift() {
        boolean weekly = random.nextBoolean();
        int n = weekly ? upTo(6) : dayOfYear();
        boolean doubled = random.nextBoolean();
        due("gift(" + weekly + ", " + n + ", " + doubled + ")",
                x.gift(weekly, n, doubled), plain.gift(weekly, n, doubled));
    }

    private void leave() {
        int gift = upTo(plain.count(3));
        int from = nearToday();
        int to = odd() ? anyDay() : from + random.nextInt(6);
        due("leave(" + gift + ", " + from + ", " + to + ")", x.leave(gift, from, to), plain.leave(gift, from, to));
    }

    private void giftOf() {
        int gift = upTo(plain.count(3));
        int what = upTo(2);
        due("giftOf(" + gift + ", " + what + ")", x.giftOf(gift, what), plain.giftOf(gift, what));
    }

    private void store() {
        int much = odd() ? odd(10_000) : random.nextInt(likes[STORE] == OFTEN ? 10_001 : 300);
        due("store(" + much + ")", x.store(much), plain.store(much));
    }

    private void guests() {
        int many = odd() ? odd(50) : 1 + random.nextInt(50);
        int rank = upTo(5);
        due("guests(" + many + ", " + rank + ")", x.guests(many, rank), plain.guests(many, rank));
    }

    /** A day, and now and then something of what it came to. */
    private void day() {
        goBy();
        if (random.nextInt(3) > 0) {
            return;
        }
        int day = today() - 1;
        int what = random.nextInt(5);
        due("dayOf(" + day + ", " + what + ")", x.dayOf(day, what), plain.dayOf(day, what));
    }

    private void goBy() {
        due("day()", x.day(), plain.day());
    }

    private void turn() {
        int day = upTo(today());
        int duty = upTo(3);
        due("turn(" + day + ", " + duty + ")", x.turn(day, duty), plain.turn(day, duty));
    }

    private void turns() {
        int monk = upTo(plain.count(1));
        int duty = upTo(4);
        due("turns(" + monk + ", " + duty + ")", x.turns(monk, duty), plain.turns(monk, duty));
    }

    private void fail() {
        int duty = upTo(3);
        due("fail(" + duty + ")", x.fail(duty), plain.fail(duty));
        due("turn(" + (today() - 1) + ", " + duty + ")", x.turn(today() - 1, duty), plain.turn(today() - 1, duty));
    }

    private void dayOf() {
        int day = upTo(today());
        int what = upTo(4);
        due("dayOf(" + day + ", " + what + ")", x.dayOf(day, what), plain.dayOf(day, what));
    }

    private void count() {
        int what = upTo(10);
        due("count(" + what + ")", x.count(what), plain.count(what));
    }
}
