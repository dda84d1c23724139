/** An abbey's offices, feasts, duties, masses, food and candles, told day by day. */
public final class AbbeyHours {
    public static final int NONE = -1;

    private static final int REFUSED = -2;
    private static final int FULL = -3;
    private static final int DAYS = 1095;
    private static final int YEAR = 365;
    private static final int WEEK = 7;
    private static final int OFFICES = 8;
    private static final int DUTIES = 4;
    private static final int MOST_STOCK = 1_000_000;
    private static final int MOST_GUESTS = 200;
    private static final int FOOD_USED = 0;
    private static final int FOOD_LACKING = 1;
    private static final int CANDLES = 2;
    private static final int MASSES_SAID = 3;
    private static final int MASSES_OWED = 4;
    private static final int FIGURES = 5;

    private final Bells bells;
    private final Feasts feasts;
    private final Tape tape;
    private final RuleReader reader;
    private final Rules rules;
    private final Monks monks;
    private final Duties duties;
    private final Gifts gifts;
    private final DayTable figures;
    private int today;
    private int stock;
    private int guestHeads;
    private int guestRanks;
    private int faultPlace;
    private int candlesInAll;

    public AbbeyHours() {
        bells = new Bells();
        feasts = new Feasts();
        tape = new Tape();
        reader = new RuleReader();
        rules = new Rules();
        monks = new Monks();
        duties = new Duties();
        gifts = new Gifts();
        figures = new DayTable(FIGURES);
        faultPlace = NONE;
    }

    public int monk(boolean priest, int bars) {
        return within(bars, 0, 15) ? monks.enter(priest, bars, today) : NONE;
    }

    public int away(int monk, int from, int to) {
        boolean asTold = monks.has(monk) && from >= today && isSpan(from, to);
        return asTold ? monks.tellAbsence(monk, from, to) : NONE;
    }

    public int feast(int day, int rank) {
        return isDayOfYear(day) && within(rank, 1, 4) ? feasts.enter(day, rank) : NONE;
    }

    public int held(int day) {
        return feasts.heldBy(day);
    }

    public int when(int feast) {
        return feasts.dayOfFeast(feast);
    }

    public int light(int day, int what) {
        if (!isDayOfYear(day)) {
            return NONE;
        }
        switch (what) {
            case 0:
                return Sun.minutes(day);
            case 1:
                return Sun.rise(day);
            case 2:
                return Sun.setting(day);
            default:
                return NONE;
        }
    }

    public int office(int day, int k) {
        return isDay(day) && isOffice(k) ? bells.startOf(day, k) : NONE;
    }

    public int late(int day, int k, int m) {
        boolean asTold = isDay(day) && day >= today && isOffice(k) && within(m, 1, 120);
        return asTold ? bells.delay(day, k, m) : NONE;
    }

    public int feed(int a, int b, int c, int d, int e) {
        if (!tape.hasRoomForFeed()) {
            return NONE;
        }
        tape.put(a);
        tape.put(b);
        tape.put(c);
        tape.put(d);
        tape.put(e);
        return tape.length();
    }

    public int rule(int n) {
        if (!within(n, 0, tape.length())) {
            return REFUSED;
        }
        if (rules.isFull()) {
            return FULL;
        }
        faultPlace = reader.read(tape, n);
        tape.wipe();
        return faultPlace == NONE ? rules.take(reader, today) : NONE;
    }

    public int fault() {
        return faultPlace;
    }

    public int fast(int day, int what) {
        if (!isDay(day)) {
            return NONE;
        }
        int rank = feasts.rankHeld(day % YEAR);
        switch (what) {
            case 0:
                return rules.isFast(day, rank) ? 1 : 0;
            case 1:
                return rules.shareOfHead(day, rank);
            case 2:
                return rules.shareOfGuest(day);
            case 3:
                return rules.inForce(day);
            default:
                return NONE;
        }
    }

    public int gift(boolean weekly, int n, boolean doubled) {
        boolean asTold = weekly ? within(n, 0, WEEK - 1) : isDayOfYear(n);
        return asTold ? gifts.enter(weekly, n, doubled) : NONE;
    }

    public int leave(int gift, int from, int to) {
        return gifts.has(gift) && isSpan(from, to) ? gifts.spare(gift, from, to) : NONE;
    }

    public int giftOf(int gift, int what) {
        return gifts.figure(gift, what);
    }

    public int store(int much) {
        if (!within(much, 0, 10_000) || stock + much > MOST_STOCK) {
            return NONE;
        }
        stock += much;
        return stock;
    }

    public int guests(int many, int rank) {
        boolean asTold = within(many, 1, 50) && within(rank, 0, 5);
        if (!asTold || guestHeads + many > MOST_GUESTS) {
            return NONE;
        }
        guestHeads += many;
        guestRanks += many * rank;
        return guestHeads;
    }

    public int day() {
        if (today >= DAYS - 1) {
            return NONE;
        }
        duties.share(monks, today);
        gifts.fallDue(today);
        int said = gifts.say(monks.ablePriests(today));
        int needed = foodNeeded();
        int used = Math.min(needed, stock);
        stock -= used;
        int candles = bells.candles(today);
        candlesInAll += candles;
        figures.put(today, FOOD_USED, used);
        figures.put(today, FOOD_LACKING, needed - used);
        figures.put(today, CANDLES, candles);
        figures.put(today, MASSES_SAID, said);
        figures.put(today, MASSES_OWED, gifts.owedInAll());
        guestHeads = 0;
        guestRanks = 0;
        today++;
        return today;
    }

    public int turn(int day, int duty) {
        return isGoneBy(day) && isDuty(duty) ? duties.holder(day, duty) : NONE;
    }

    public int turns(int monk, int duty) {
        if (!monks.has(monk)) {
            return NONE;
        }
        if (duty == DUTIES) {
            return duties.turnsInAll(monk);
        }
        return isDuty(duty) ? duties.turnsTaken(monk, duty) : NONE;
    }

    public int fail(int duty) {
        boolean someoneHadIt =
                today > 0 && isDuty(duty) && duties.holder(today - 1, duty) != NONE;
        return someoneHadIt ? duties.replace(monks, today - 1, duty) : REFUSED;
    }

    public int dayOf(int day, int what) {
        return isGoneBy(day) ? figures.at(day, what) : NONE;
    }

    public int count(int what) {
        switch (what) {
            case 0:
                return today;
            case 1:
                return monks.size();
            case 2:
                return feasts.size();
            case 3:
                return gifts.size();
            case 4:
                return stock;
            case 5:
                return guestHeads;
            case 6:
                return rules.size();
            case 7:
                return gifts.owedInAll();
            case 8:
                return gifts.saidInAll();
            case 9:
                return candlesInAll;
            case 10:
                return tape.length();
            default:
                return NONE;
        }
    }

    private int foodNeeded() {
        int head = rules.shareOfHead(today, feasts.rankHeld(today % YEAR));
        return monks.size() * head + guestHeads * rules.shareOfGuest(today) + guestRanks;
    }

    private boolean isGoneBy(int day) {
        return day >= 0 && day < today;
    }

    private static boolean within(int value, int least, int most) {
        return value >= least && value <= most;
    }

    private static boolean isDay(int day) {
        return within(day, 0, DAYS - 1);
    }

    private static boolean isDayOfYear(int day) {
        return within(day, 0, YEAR - 1);
    }

    private static boolean isSpan(int from, int to) {
        return isDay(from) && isDay(to) && from <= to;
    }

    private static boolean isOffice(int k) {
        return within(k, 0, OFFICES - 1);
    }

    private static boolean isDuty(int duty) {
        return within(duty, 0, DUTIES - 1);
    }

    /** The light of a day of the year, and what the offices make of it. */
    private static final class Sun {
        private static final int NOON = 720;
        private static final int MIDNIGHT = 1440;
        private static final int SHORTEST_DAY = 355;
        private static final int LEAST_LIGHT = 480;
        private static final int MOST_LIGHT = 960;
        private static final int GROWING_DAYS = 182;
        private static final int WANING_DAYS = 183;

        static int minutes(int dayOfYear) {
            int since = dayOfYear >= SHORTEST_DAY
                    ? dayOfYear - SHORTEST_DAY
                    : dayOfYear + YEAR - SHORTEST_DAY;
            if (since <= GROWING_DAYS) {
                return LEAST_LIGHT + LEAST_LIGHT * since / GROWING_DAYS;
            }
            return MOST_LIGHT - LEAST_LIGHT * (since - GROWING_DAYS) / WANING_DAYS;
        }

        static int rise(int dayOfYear) {
            return NOON - minutes(dayOfYear) / 2;
        }

        static int setting(int dayOfYear) {
            return rise(dayOfYear) + minutes(dayOfYear);
        }

        /** When an office begins if its bell isn't late. */
        static int bell(int dayOfYear, int k) {
            int light = minutes(dayOfYear);
            int sunrise = rise(dayOfYear);
            int sunset = sunrise + light;
            switch (k) {
                case 0:
                    return sunrise / 3;
                case 1:
                    return sunrise - 60;
                case 2:
                    return sunrise;
                case 3:
                    return sunrise + light * 3 / 12;
                case 4:
                    return sunrise + light * 6 / 12;
                case 5:
                    return sunrise + light * 9 / 12;
                case 6:
                    return sunrise + light * 11 / 12;
                default:
                    return sunset + (MIDNIGHT - sunset) / 3;
            }
        }
    }

    /** The offices of each day as their bells ring, with those that are late. */
    private static final class Bells {
        private static final int MOST_ROWS = 100;
        private static final int LASTS = 30;
        private static final int LAST_BEGINS_BEFORE = 1410;

        private final int[] days = new int[MOST_ROWS];
        private final int[] offices = new int[MOST_ROWS];
        private final int[] delays = new int[MOST_ROWS];
        private int size;

        int startOf(int day, int k) {
            int row = rowOf(day, k);
            return Sun.bell(day % YEAR, k) + (row == NONE ? 0 : delays[row]);
        }

        int delay(int day, int k, int m) {
            int minute = Sun.bell(day % YEAR, k) + m;
            // The document refuses once 100 are told, be it a new bell or one told anew.
            if (size >= MOST_ROWS || !keepsOrder(day, k, minute)) {
                return NONE;
            }
            int row = rowOf(day, k);
            if (row == NONE) {
                row = size;
                size++;
            }
            days[row] = day;
            offices[row] = k;
            delays[row] = m;
            return minute;
        }

        int candles(int day) {
            int sunrise = Sun.rise(day % YEAR);
            int sunset = Sun.setting(day % YEAR);
            int dark = 0;
            for (int k = 0; k < OFFICES; k++) {
                int start = startOf(day, k);
                dark += partOfOffice(sunrise - start);
                dark += partOfOffice(start + LASTS - sunset);
            }
            return dark;
        }

        private boolean keepsOrder(int day, int k, int minute) {
            int next = k == OFFICES - 1 ? LAST_BEGINS_BEFORE : startOf(day, k + 1);
            return minute < next && (k == 0 || minute > startOf(day, k - 1));
        }

        private int rowOf(int day, int k) {
            for (int row = 0; row < size; row++) {
                if (days[row] == day && offices[row] == k) {
                    return row;
                }
            }
            return NONE;
        }

        private static int partOfOffice(int minutes) {
            return Math.max(0, Math.min(LASTS, minutes));
        }
    }

    /** The feasts of the year, and on which day each of them is held. */
    private static final class Feasts {
        private static final int MOST = 40;
        private static final int LEAST_PUT_OFF = 2;

        private final int[] falls = new int[MOST];
        private final int[] ranks = new int[MOST];
        private final int[] standsOn = new int[MOST];
        private final int[] heldOn = new int[MOST];
        private final int[] holder = new int[YEAR];
        private final int[] standing = new int[YEAR];
        private int size;

        int size() {
            return size;
        }

        int enter(int dayOfYear, int rank) {
            if (size >= MOST) {
                return NONE;
            }
            falls[size] = dayOfYear;
            ranks[size] = rank;
            size++;
            settle();
            return size - 1;
        }

        int heldBy(int dayOfYear) {
            // With no feast yet the year was never settled, and its rows are still blank.
            return size > 0 && isDayOfYear(dayOfYear) ? holder[dayOfYear] : NONE;
        }

        int dayOfFeast(int feast) {
            return feast >= 0 && feast < size ? heldOn[feast] : NONE;
        }

        /** The rank that is held on a day of the year, 0 if no feast is. */
        int rankHeld(int dayOfYear) {
            int feast = heldBy(dayOfYear);
            return feast == NONE ? 0 : ranks[feast];
        }

        private void settle() {
            for (int y = 0; y < YEAR; y++) {
                holder[y] = NONE;
                standing[y] = 0;
            }
            for (int i = 0; i < size; i++) {
                heldOn[i] = NONE;
                stand(i, falls[i]);
            }
            for (int y = 0; y < YEAR; y++) {
                // Most days of the year are without a feast: the count spares the search.
                if (standing[y] > 0) {
                    hold(y);
                }
            }
        }

        private void hold(int y) {
            int greatest = greatestOn(y);
            if (greatest == NONE) {
                return;
            }
            holder[y] = greatest;
            heldOn[greatest] = y;
            for (int i = 0; i < size; i++) {
                if (i != greatest && standsOn[i] == y && ranks[i] >= LEAST_PUT_OFF) {
                    stand(i, y + 1);
                }
            }
        }

        private void stand(int feast, int y) {
            standsOn[feast] = y;
            if (y < YEAR) {
                standing[y]++;
            }
        }

        private int greatestOn(int y) {
            int greatest = NONE;
            for (int i = 0; i < size; i++) {
                if (standsOn[i] == y && (greatest == NONE || givesWay(greatest, i, y))) {
                    greatest = i;
                }
            }
            return greatest;
        }

        private boolean givesWay(int feast, int other, int y) {
            if (ranks[feast] != ranks[other]) {
                return ranks[feast] < ranks[other];
            }
            return falls[feast] != y && falls[other] == y;
        }
    }

    /** The bytes that were fed. */
    private static final class Tape {
        private static final int MOST_BYTES = 600;
        private static final int BYTES_OF_FEED = 20;

        private final byte[] bytes = new byte[MOST_BYTES];
        private int length;

        int length() {
            return length;
        }

        boolean hasRoomForFeed() {
            return length + BYTES_OF_FEED <= MOST_BYTES;
        }

        void put(int four) {
            for (int shift = 24; shift >= 0; shift -= 8) {
                if (length < MOST_BYTES) {
                    bytes[length] = (byte) (four >> shift);
                    length++;
                }
            }
        }

        void wipe() {
            length = 0;
        }

        int byteAt(int i) {
            return i >= 0 && i < length ? bytes[i] : 0;
        }
    }

    /** The tokens of a text on the tape, as many as a rule can need; behind them is the end. */
    private static final class Tokens {
        private static final int MOST_DIGITS = 3;
        // No statement has more than six tokens, and behind the last one a single token is a fault.
        private static final int MOST = 6 * RuleReader.MOST_STATEMENTS + 1;

        private static final int END = 0;
        private static final int UNKNOWN = 1;
        private static final int STOP = 2;
        private static final int NUMBER = 3;
        private static final int FAST = 4;
        private static final int WEEKDAY = 5;
        private static final int FROM = 6;
        private static final int TO = 7;
        private static final int FEED = 8;
        private static final int RANK = 9;
        private static final int GUEST = 10;

        private final int[] kinds = new int[MOST];
        private final int[] places = new int[MOST];
        private final int[] values = new int[MOST];
        private int size;
        private int textLength;

        int kind(int i) {
            return i >= 0 && i < size ? kinds[i] : END;
        }

        /** Where a token begins; that of the end is the text's length. */
        int place(int i) {
            return i >= 0 && i < size ? places[i] : textLength;
        }

        /** The number that a token is, 0 if it is none. */
        int value(int i) {
            return i >= 0 && i < size ? values[i] : 0;
        }

        void scan(Tape tape, int n) {
            size = 0;
            textLength = n;
            for (int i = 0; i < n && size < MOST; i++) {
                if (!isBlank(tape.byteAt(i))) {
                    int end = endOfToken(tape, i);
                    keep(tape, i, end);
                    i = Math.max(i, end - 1);
                }
            }
        }

        private void keep(Tape tape, int from, int end) {
            if (size >= MOST) {
                return;
            }
            int kind = kindOf(tape, from, end);
            kinds[size] = kind;
            places[size] = from;
            values[size] = kind == NUMBER ? numberOf(tape, from, end) : 0;
            size++;
        }

        private int endOfToken(Tape tape, int from) {
            int end = from + 1;
            if (isLetter(tape.byteAt(from))) {
                while (end < textLength && isLetter(tape.byteAt(end))) {
                    end++;
                }
            } else if (isDigit(tape.byteAt(from))) {
                while (end < textLength && isDigit(tape.byteAt(end))) {
                    end++;
                }
            }
            return end;
        }

        private static int kindOf(Tape tape, int from, int end) {
            int first = tape.byteAt(from);
            if (isLetter(first)) {
                return wordOf(tape, from, end);
            }
            if (isDigit(first)) {
                return end - from <= MOST_DIGITS ? NUMBER : UNKNOWN;
            }
            return first == ';' ? STOP : UNKNOWN;
        }

        private static int wordOf(Tape tape, int from, int end) {
            if (spells(tape, from, end, "fast")) {
                return FAST;
            }
            if (spells(tape, from, end, "weekday")) {
                return WEEKDAY;
            }
            if (spells(tape, from, end, "from")) {
                return FROM;
            }
            if (spells(tape, from, end, "to")) {
                return TO;
            }
            if (spells(tape, from, end, "feed")) {
                return FEED;
            }
            if (spells(tape, from, end, "rank")) {
                return RANK;
            }
            return spells(tape, from, end, "guest") ? GUEST : UNKNOWN;
        }

        private static boolean spells(Tape tape, int from, int end, String word) {
            if (end - from != word.length()) {
                return false;
            }
            for (int i = 0; i < word.length(); i++) {
                if (tape.byteAt(from + i) != word.charAt(i)) {
                    return false;
                }
            }
            return true;
        }

        private static int numberOf(Tape tape, int from, int end) {
            int value = 0;
            for (int i = from; i < end; i++) {
                value = value * 10 + tape.byteAt(i) - '0';
            }
            return value;
        }

        private static boolean isBlank(int b) {
            return b == 32 || b == 10;
        }

        private static boolean isLetter(int b) {
            return b >= 'a' && b <= 'z';
        }

        private static boolean isDigit(int b) {
            return b >= '0' && b <= '9';
        }
    }

    /** Reads the statements of one rule; what it read last stays till the next reading. */
    private static final class RuleReader {
        private static final int MOST_STATEMENTS = 16;

        private static final int FAST_WEEKDAY = 1;
        private static final int FAST_SPAN = 2;
        private static final int FEED_FAST = 3;
        private static final int FEED_RANK = 4;
        private static final int FEED_GUEST = 5;
        private static final int FEED_HEAD = 6;

        private final Tokens tokens = new Tokens();
        private final int[] kinds = new int[MOST_STATEMENTS];
        private final int[] firsts = new int[MOST_STATEMENTS];
        private final int[] seconds = new int[MOST_STATEMENTS];
        private int size;
        private int next;
        private int first;
        private int second;

        /** The fault's place, NONE if there is none. */
        int read(Tape tape, int n) {
            tokens.scan(tape, n);
            next = 0;
            for (size = 0; size < MOST_STATEMENTS && tokens.kind(next) != Tokens.END; size++) {
                int kind = statement();
                if (kind == NONE) {
                    return tokens.place(next);
                }
                kinds[size] = kind;
                firsts[size] = first;
                seconds[size] = second;
            }
            return tokens.kind(next) == Tokens.END ? NONE : tokens.place(next);
        }

        /** The statement's kind; if it is none, NONE, and the faulty token is the next one. */
        private int statement() {
            first = 0;
            second = 0;
            int kind = NONE;
            if (accept(Tokens.FAST)) {
                kind = fastStatement();
            } else if (accept(Tokens.FEED)) {
                kind = feedStatement();
            }
            return kind != NONE && accept(Tokens.STOP) ? kind : NONE;
        }

        private int fastStatement() {
            if (accept(Tokens.WEEKDAY)) {
                return acceptFirst() ? FAST_WEEKDAY : NONE;
            }
            boolean span = accept(Tokens.FROM) && acceptFirst()
                    && accept(Tokens.TO) && acceptSecond();
            return span ? FAST_SPAN : NONE;
        }

        private int feedStatement() {
            if (accept(Tokens.FAST)) {
                return acceptSecond() ? FEED_FAST : NONE;
            }
            if (accept(Tokens.RANK)) {
                return acceptFirst() && acceptSecond() ? FEED_RANK : NONE;
            }
            if (accept(Tokens.GUEST)) {
                return acceptSecond() ? FEED_GUEST : NONE;
            }
            return acceptSecond() ? FEED_HEAD : NONE;
        }

        private boolean acceptFirst() {
            first = tokens.value(next);
            return accept(Tokens.NUMBER);
        }

        private boolean acceptSecond() {
            second = tokens.value(next);
            return accept(Tokens.NUMBER);
        }

        private boolean accept(int kind) {
            if (tokens.kind(next) != kind) {
                return false;
            }
            next++;
            return true;
        }
    }

    /** The rules that were taken, each in force from its day till the next one's. */
    private static final class Rules {
        private static final int MOST = 10;
        private static final int ROWS = RuleReader.MOST_STATEMENTS;
        private static final int LEAST_RANK_OVER_FAST = 3;
        private static final int USUAL_HEAD = 2;
        private static final int USUAL_GUEST = 3;

        private final int[] since = new int[MOST];
        private final int[] sizes = new int[MOST];
        private final int[] kinds = new int[MOST * ROWS];
        private final int[] firsts = new int[MOST * ROWS];
        private final int[] seconds = new int[MOST * ROWS];
        private int size;

        int size() {
            return size;
        }

        boolean isFull() {
            return size >= MOST;
        }

        int take(RuleReader read, int today) {
            if (isFull()) {
                return NONE;
            }
            since[size] = today;
            sizes[size] = read.size;
            for (int i = 0; i < read.size && i < ROWS; i++) {
                kinds[size * ROWS + i] = read.kinds[i];
                firsts[size * ROWS + i] = read.firsts[i];
                seconds[size * ROWS + i] = read.seconds[i];
            }
            size++;
            return size - 1;
        }

        int inForce(int day) {
            for (int i = size - 1; i >= 0; i--) {
                if (since[i] <= day) {
                    return i;
                }
            }
            return NONE;
        }

        boolean isFast(int day, int rankHeld) {
            int rule = inForce(day);
            if (rule == NONE || rankHeld >= LEAST_RANK_OVER_FAST) {
                return false;
            }
            for (int row = rule * ROWS; row < rule * ROWS + sizes[rule]; row++) {
                if (tellsFast(row, day)) {
                    return true;
                }
            }
            return false;
        }

        int shareOfHead(int day, int rankHeld) {
            int told = NONE;
            if (isFast(day, rankHeld)) {
                told = lastTold(day, RuleReader.FEED_FAST, 0);
            }
            if (told == NONE && rankHeld > 0) {
                told = lastTold(day, RuleReader.FEED_RANK, rankHeld);
            }
            if (told == NONE) {
                told = lastTold(day, RuleReader.FEED_HEAD, 0);
            }
            return told == NONE ? USUAL_HEAD : told;
        }

        /** What a guest of rank 0 is fed. */
        int shareOfGuest(int day) {
            int told = lastTold(day, RuleReader.FEED_GUEST, 0);
            return told == NONE ? USUAL_GUEST : told;
        }

        private boolean tellsFast(int row, int day) {
            int y = day % YEAR;
            if (kinds[row] == RuleReader.FAST_WEEKDAY) {
                return firsts[row] == day % WEEK;
            }
            if (kinds[row] != RuleReader.FAST_SPAN) {
                return false;
            }
            boolean begun = y >= firsts[row];
            boolean notOver = y <= seconds[row];
            return seconds[row] < firsts[row] ? begun || notOver : begun && notOver;
        }

        private int lastTold(int day, int kind, int first) {
            int rule = inForce(day);
            if (rule == NONE) {
                return NONE;
            }
            for (int row = rule * ROWS + sizes[rule] - 1; row >= rule * ROWS; row--) {
                if (kinds[row] == kind && firsts[row] == first) {
                    return seconds[row];
                }
            }
            return NONE;
        }
    }

    /** The monks, and when they are ill or away. */
    private static final class Monks {
        private static final int MOST = 24;
        private static final int MOST_ROWS = 60;

        private final boolean[] priests = new boolean[MOST];
        private final int[] barred = new int[MOST];
        private final int[] cameOn = new int[MOST];
        private final int[] absent = new int[MOST_ROWS];
        private final int[] absentFrom = new int[MOST_ROWS];
        private final int[] absentTo = new int[MOST_ROWS];
        private int size;
        private int rows;

        int size() {
            return size;
        }

        boolean has(int monk) {
            return monk >= 0 && monk < size;
        }

        int enter(boolean priest, int bars, int today) {
            if (size >= MOST) {
                return NONE;
            }
            priests[size] = priest;
            barred[size] = bars;
            cameOn[size] = today;
            size++;
            return size - 1;
        }

        int tellAbsence(int monk, int from, int to) {
            if (rows >= MOST_ROWS) {
                return NONE;
            }
            absent[rows] = monk;
            absentFrom[rows] = from;
            absentTo[rows] = to;
            rows++;
            return rows;
        }

        boolean isAble(int monk, int day) {
            // Who came in behind a day wasn't there to be able on it.
            if (!has(monk) || day < cameOn[monk]) {
                return false;
            }
            for (int row = 0; row < rows; row++) {
                if (absent[row] == monk && within(day, absentFrom[row], absentTo[row])) {
                    return false;
                }
            }
            return true;
        }

        boolean isBarred(int monk, int duty) {
            return has(monk) && (barred[monk] >> duty & 1) == 1;
        }

        int ablePriests(int day) {
            int able = 0;
            for (int monk = 0; monk < size; monk++) {
                if (priests[monk] && isAble(monk, day)) {
                    able++;
                }
            }
            return able;
        }
    }

    /** Who had which duty on the days gone by, and how many turns that makes. */
    private static final class Duties {
        private final DayTable holders = new DayTable(DUTIES);
        private final int[] taken = new int[Monks.MOST * DUTIES];

        int holder(int day, int duty) {
            return holders.at(day, duty);
        }

        int turnsTaken(int monk, int duty) {
            return taken[monk * DUTIES + duty];
        }

        int turnsInAll(int monk) {
            int sum = 0;
            for (int duty = 0; duty < DUTIES; duty++) {
                sum += turnsTaken(monk, duty);
            }
            return sum;
        }

        void share(Monks monks, int day) {
            for (int duty = 0; duty < DUTIES; duty++) {
                holders.put(day, duty, NONE);
            }
            for (int duty = 0; duty < DUTIES; duty++) {
                give(day, duty, choose(monks, day, duty));
            }
        }

        /** Another one in the place of the one who failed, who has the duty till then. */
        int replace(Monks monks, int day, int duty) {
            // Chosen while the one who failed still has it, so it can't be that one again.
            int other = choose(monks, day, duty);
            int failed = holder(day, duty);
            if (failed != NONE) {
                taken[failed * DUTIES + duty]--;
            }
            give(day, duty, other);
            return other;
        }

        private void give(int day, int duty, int monk) {
            holders.put(day, duty, monk);
            if (monk != NONE) {
                taken[monk * DUTIES + duty]++;
            }
        }

        private int choose(Monks monks, int day, int duty) {
            int chosen = NONE;
            for (int monk = 0; monk < monks.size(); monk++) {
                boolean fewer = chosen == NONE
                        || turnsTaken(monk, duty) < turnsTaken(chosen, duty);
                if (fewer && !monks.isBarred(monk, duty) && isFree(monk, day)
                        && monks.isAble(monk, day)) {
                    chosen = monk;
                }
            }
            return chosen;
        }

        private boolean isFree(int monk, int day) {
            for (int duty = 0; duty < DUTIES; duty++) {
                if (holder(day, duty) == monk) {
                    return false;
                }
            }
            return true;
        }
    }

    /** The gifts, and the masses that they make owed, said, or spared by leave. */
    private static final class Gifts {
        private static final int MOST = 40;
        private static final int MOST_ROWS = 40;

        private final boolean[] weekly = new boolean[MOST];
        private final boolean[] doubled = new boolean[MOST];
        private final int[] dueOn = new int[MOST];
        private final int[] owed = new int[MOST];
        private final int[] said = new int[MOST];
        private final int[] spared = new int[MOST];
        private final int[] leaveOf = new int[MOST_ROWS];
        private final int[] leaveFrom = new int[MOST_ROWS];
        private final int[] leaveTo = new int[MOST_ROWS];
        private int size;
        private int rows;

        int size() {
            return size;
        }

        boolean has(int gift) {
            return gift >= 0 && gift < size;
        }

        int enter(boolean onWeekday, int n, boolean two) {
            if (size >= MOST) {
                return NONE;
            }
            weekly[size] = onWeekday;
            dueOn[size] = n;
            doubled[size] = two;
            size++;
            return size - 1;
        }

        int spare(int gift, int from, int to) {
            if (rows >= MOST_ROWS) {
                return NONE;
            }
            leaveOf[rows] = gift;
            leaveFrom[rows] = from;
            leaveTo[rows] = to;
            rows++;
            return rows;
        }

        int figure(int gift, int what) {
            if (!has(gift)) {
                return NONE;
            }
            switch (what) {
                case 0:
                    return owed[gift];
                case 1:
                    return said[gift];
                case 2:
                    return spared[gift];
                default:
                    return NONE;
            }
        }

        void fallDue(int day) {
            for (int gift = 0; gift < size; gift++) {
                if (isDue(gift, day)) {
                    int masses = doubled[gift] ? 2 : 1;
                    if (hasLeave(gift, day)) {
                        spared[gift] += masses;
                    } else {
                        owed[gift] += masses;
                    }
                }
            }
        }

        /** Each of so many priests says one mass that is owed: how many are said. */
        int say(int priests) {
            int masses = 0;
            for (int i = 0; i < priests; i++) {
                int gift = mostOwed();
                if (gift == NONE) {
                    return masses;
                }
                owed[gift]--;
                said[gift]++;
                masses++;
            }
            return masses;
        }

        int owedInAll() {
            return sum(owed);
        }

        int saidInAll() {
            return sum(said);
        }

        private int sum(int[] masses) {
            int all = 0;
            for (int gift = 0; gift < size; gift++) {
                all += masses[gift];
            }
            return all;
        }

        private int mostOwed() {
            int most = NONE;
            for (int gift = 0; gift < size; gift++) {
                if (owed[gift] > 0 && (most == NONE || owed[gift] > owed[most])) {
                    most = gift;
                }
            }
            return most;
        }

        private boolean isDue(int gift, int day) {
            return dueOn[gift] == (weekly[gift] ? day % WEEK : day % YEAR);
        }

        private boolean hasLeave(int gift, int day) {
            for (int row = 0; row < rows; row++) {
                if (leaveOf[row] == gift && within(day, leaveFrom[row], leaveTo[row])) {
                    return true;
                }
            }
            return false;
        }
    }

    /** A row of numbers for each day. It grows with the days, as few objects see many of them. */
    private static final class DayTable {
        private static final int DAYS_AT_FIRST = 32;

        private final int width;
        private int[] cells;

        DayTable(int columns) {
            width = Math.max(1, columns);
            cells = new int[width * DAYS_AT_FIRST];
        }

        int at(int day, int column) {
            return isCell(day, column) && day * width + column < cells.length
                    ? cells[day * width + column]
                    : NONE;
        }

        void put(int day, int column, int value) {
            if (!isCell(day, column)) {
                return;
            }
            if ((day + 1) * width > cells.length) {
                grow((day + 1) * width);
            }
            cells[day * width + column] = value;
        }

        private boolean isCell(int day, int column) {
            return day >= 0 && day < DAYS && column >= 0 && column < width;
        }

        private void grow(int needed) {
            int[] more = new int[Math.max(needed, 2 * cells.length)];
            System.arraycopy(cells, 0, more, 0, cells.length);
            cells = more;
        }
    }
}
