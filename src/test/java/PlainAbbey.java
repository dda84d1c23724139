import java.util.ArrayList;
import java.util.Comparator;
import java.util.HashMap;
import java.util.List;
import java.util.Map;
import java.util.TreeMap;
import java.util.regex.Matcher;
import java.util.regex.Pattern;

/**
 * The document a second time, for RandomRunsTest, as far from AbbeyHours' way as can be: it keeps
 * what was told and what happened, and counts and searches all of it anew for each answer.
 */
final class PlainAbbey {
    private static final int NONE = -1;
    private static final String NUMBER = "n";
    /** A letter for each word of the rule's text, "n" for a NUMBER, "?" for what is no token. */
    private static final Map<String, String> LETTERS = Map.of("fast", "f", "weekday", "w",
            "from", "a", "to", "b", "feed", "e", "rank", "r", "guest", "g", ";", ";");
    private static final Pattern TOKEN = Pattern.compile("[a-z]+|[0-9]+|[^ \n]");
    private static final Pattern STATEMENTS =
            Pattern.compile("(?:fwn;|fanbn;|efn;|ernn;|egn;|en;){0,16}");

    private record Monk(boolean priest, int bars, int came) { }

    private record Span(int of, int from, int to) { }

    private record Feast(int number, int day, int rank) { }

    private record Gift(boolean weekly, int n, boolean doubled) { }

    private record Rule(int from, List<String> statements) { }

    private record Guests(int many, int rank) { }

    private enum Happened { OWED, SAID, SPARED }

    private record Mass(int day, int gift, Happened what) { }

    private record Told(int used, int lacking, int candles, int said, int owed) { }

    private final List<Monk> monks = new ArrayList<>();
    private final List<Span> aways = new ArrayList<>();
    private final List<Feast> feasts = new ArrayList<>();
    private final Map<List<Integer>, Integer> lates = new HashMap<>();
    private final StringBuilder tape = new StringBuilder();
    private final List<Rule> rules = new ArrayList<>();
    private final List<Gift> gifts = new ArrayList<>();
    private final List<Span> leaves = new ArrayList<>();
    private final List<Mass> masses = new ArrayList<>();
    private final List<Guests> guests = new ArrayList<>();
    private final List<Integer> stores = new ArrayList<>();
    private final List<Map<Integer, Integer>> holders = new ArrayList<>();
    private final List<Told> days = new ArrayList<>();
    private int fault = NONE;

    int monk(boolean priest, int bars) {
        if ((bars & ~15) != 0 || monks.size() == 24) {
            return NONE;
        }
        monks.add(new Monk(priest, bars, today()));
        return monks.size() - 1;
    }

    int away(int monk, int from, int to) {
        if (isNot(monk, monks.size()) || from < today() || to < from || to > 1094 || aways.size() == 60) {
            return NONE;
        }
        aways.add(new Span(monk, from, to));
        return aways.size();
    }

    int feast(int day, int rank) {
        if (isNot(day, 365) || rank < 1 || rank > 4 || feasts.size() == 40) {
            return NONE;
        }
        feasts.add(new Feast(feasts.size(), day, rank));
        return feasts.size() - 1;
    }

    int held(int day) {
        Feast feast = calendar().get(day);
        return feast == null ? NONE : feast.number;
    }

    int when(int feast) {
        for (Map.Entry<Integer, Feast> entry : calendar().entrySet()) {
            if (entry.getValue().number == feast) {
                return entry.getKey();
            }
        }
        return NONE;
    }

    int light(int day, int what) {
        return isNot(day, 365) || isNot(what, 3) ? NONE : sun(day)[what];
    }

    int office(int day, int k) {
        return isNot(day, 1095) || isNot(k, 8)
                ? NONE
                : bell(day, k) + lates.getOrDefault(List.of(day, k), 0);
    }

    int late(int day, int k, int m) {
        boolean told = day >= today() && day <= 1094 && !isNot(k, 8) && m >= 1 && m <= 120;
        if (!told || lates.size() == 100) {
            return NONE;
        }
        int minute = bell(day, k) + m;
        int next = k == 7 ? 1410 : office(day, k + 1);
        int ahead = k == 0 ? Integer.MIN_VALUE : office(day, k - 1);
        if (minute >= next || minute <= ahead) {
            return NONE;
        }
        lates.put(List.of(day, k), m);
        return minute;
    }

    int feed(int... numbers) {
        if (tape.length() + 20 > 600) {
            return NONE;
        }
        for (int number : numbers) {
            for (int place = 3; place >= 0; place--) {
                tape.append((char) (number >>> 8 * place & 255));
            }
        }
        return tape.length();
    }

    int rule(int n) {
        if (n < 0 || n > tape.length()) {
            return -2;
        }
        if (rules.size() == 10) {
            return -3;
        }
        String text = tape.substring(0, n);
        tape.setLength(0);
        fault = faultOf(text);
        if (fault != NONE) {
            return NONE;
        }
        rules.add(new Rule(today(), statementsOf(text)));
        return rules.size() - 1;
    }

    int fault() {
        return fault;
    }

    int fast(int day, int what) {
        if (isNot(day, 1095)) {
            return NONE;
        }
        switch (what) {
            case 0: return isFast(day) ? 1 : 0;
            case 1: return shareOfHead(day);
            case 2: return told(day, "feed guest", 3);
            case 3: return ruleOn(day) == null ? NONE : rules.lastIndexOf(ruleOn(day));
            default: return NONE;
        }
    }

    int gift(boolean weekly, int n, boolean doubled) {
        if (isNot(n, weekly ? 7 : 365) || gifts.size() == 40) {
            return NONE;
        }
        gifts.add(new Gift(weekly, n, doubled));
        return gifts.size() - 1;
    }

    int leave(int gift, int from, int to) {
        if (isNot(gift, gifts.size()) || from < 0 || from > to || to > 1094 || leaves.size() == 40) {
            return NONE;
        }
        leaves.add(new Span(gift, from, to));
        return leaves.size();
    }

    int giftOf(int gift, int what) {
        if (isNot(gift, gifts.size())) {
            return NONE;
        }
        switch (what) {
            case 0: return owed(gift);
            case 1: return masses(gift, Happened.SAID);
            case 2: return masses(gift, Happened.SPARED);
            default: return NONE;
        }
    }

    int store(int much) {
        if (much < 0 || much > 10_000 || inStore() + much > 1_000_000) {
            return NONE;
        }
        stores.add(much);
        return inStore();
    }

    int guests(int many, int rank) {
        if (many < 1 || many > 50 || isNot(rank, 6) || heads() + many > 200) {
            return NONE;
        }
        guests.add(new Guests(many, rank));
        return heads();
    }

    int day() {
        if (today() == 1094) {
            return NONE;
        }
        int day = today();
        holders.add(new HashMap<>());
        for (int duty = 0; duty < 4; duty++) {
            assign(day, duty, NONE);
        }
        gifts(day);
        int said = sayMasses(day);
        int need = monks.size() * shareOfHead(day);
        for (Guests some : guests) {
            need += some.many * (told(day, "feed guest", 3) + some.rank);
        }
        int used = Math.min(need, inStore());
        days.add(new Told(used, need - used, candles(day), said, owedInAll()));
        guests.clear();
        return today();
    }

    int turn(int day, int duty) {
        return isNot(day, today()) ? NONE : holders.get(day).getOrDefault(duty, NONE);
    }

    int turns(int monk, int duty) {
        if (isNot(monk, monks.size()) || isNot(duty, 5)) {
            return NONE;
        }
        int count = 0;
        for (Map<Integer, Integer> holder : holders) {
            for (Map.Entry<Integer, Integer> entry : holder.entrySet()) {
                boolean counts = duty == 4 || entry.getKey() == duty;
                count += counts && entry.getValue() == monk ? 1 : 0;
            }
        }
        return count;
    }

    int fail(int duty) {
        int failing = turn(today() - 1, duty);
        if (failing == NONE) {
            return -2;
        }
        holders.get(today() - 1).remove(duty);
        return assign(today() - 1, duty, failing);
    }

    int dayOf(int day, int what) {
        if (isNot(day, today()) || isNot(what, 5)) {
            return NONE;
        }
        Told told = days.get(day);
        return new int[] {told.used, told.lacking, told.candles, told.said, told.owed}[what];
    }

    int count(int what) {
        switch (what) {
            case 0: return today();
            case 1: return monks.size();
            case 2: return feasts.size();
            case 3: return gifts.size();
            case 4: return inStore();
            case 5: return heads();
            case 6: return rules.size();
            case 7: return owedInAll();
            case 8: return (int) masses.stream().filter(m -> m.what == Happened.SAID).count();
            case 9: return days.stream().mapToInt(Told::candles).sum();
            case 10: return tape.length();
            default: return NONE;
        }
    }

    private int today() {
        return days.size();
    }

    private static boolean isNot(int value, int below) {
        return value < 0 || value >= below;
    }

    /** LIGHT, SUNRISE and SUNSET, by fractions that are cut. */
    private static int[] sun(int y) {
        int n = Math.floorMod(y - 355, 365);
        int light = n <= 182
                ? 480 + (int) Math.floor(480.0 * n / 182)
                : 960 - (int) Math.floor(480.0 * (n - 182) / 183);
        int rise = 720 - (light - light % 2) / 2;
        return new int[] {light, rise, rise + light};
    }

    private static int bell(int day, int k) {
        int[] sun = sun(day % 365);
        int light = sun[0];
        int rise = sun[1];
        int set = sun[2];
        int[] minutes = {rise / 3, rise - 60, rise, rise + light / 4, rise + light / 2,
            rise + light * 3 / 4, rise + light * 11 / 12, set + (1440 - set) / 3};
        return minutes[k];
    }

    private int candles(int day) {
        int[] sun = sun(day % 365);
        int dark = 0;
        for (int k = 0; k < 8; k++) {
            for (int minute = office(day, k); minute < office(day, k) + 30; minute++) {
                dark += minute < sun[1] || minute >= sun[2] ? 1 : 0;
            }
        }
        return dark;
    }

    /** Day by day those who are there, the first of them held and the rest sent on. */
    private Map<Integer, Feast> calendar() {
        Map<Integer, Feast> held = new TreeMap<>();
        List<Feast> sentOn = new ArrayList<>();
        for (int y = 0; y < 365; y++) {
            int day = y;
            List<Feast> there = new ArrayList<>(sentOn);
            feasts.stream().filter(feast -> feast.day == day).forEach(there::add);
            sentOn.clear();
            there.sort(Comparator.comparingInt((Feast feast) -> -feast.rank)
                    .thenComparingInt(feast -> feast.day == day ? 0 : 1)
                    .thenComparingInt(Feast::number));
            for (Feast feast : there) {
                if (held.putIfAbsent(day, feast) != null && feast.rank >= 2) {
                    sentOn.add(feast);
                }
            }
        }
        return held;
    }

    private int rankHeld(int day) {
        Feast feast = calendar().get(day % 365);
        return feast == null ? 0 : feast.rank;
    }

    private static String letterOf(String token) {
        if (token.matches("[0-9]{1,3}")) {
            return NUMBER;
        }
        return LETTERS.getOrDefault(token, "?");
    }

    /** Token by token: can the letters so far be the beginning of statements, sixteen at most? */
    private static int faultOf(String text) {
        StringBuilder letters = new StringBuilder();
        Matcher token = TOKEN.matcher(text);
        while (token.find()) {
            letters.append(letterOf(token.group()));
            Matcher statements = STATEMENTS.matcher(letters);
            if (!statements.matches() && !statements.hitEnd()) {
                return token.start();
            }
        }
        return STATEMENTS.matcher(letters).matches() ? NONE : text.length();
    }

    /** The statements with one blank between their tokens and without leading noughts. */
    private static List<String> statementsOf(String text) {
        List<String> statements = new ArrayList<>();
        StringBuilder statement = new StringBuilder();
        Matcher token = TOKEN.matcher(text);
        while (token.find()) {
            String word = token.group();
            if (word.equals(";")) {
                statements.add(statement.toString());
                statement.setLength(0);
            } else {
                statement.append(statement.length() == 0 ? "" : " ");
                statement.append(letterOf(word).equals(NUMBER) ? "" + Integer.parseInt(word) : word);
            }
        }
        return statements;
    }

    private Rule ruleOn(int day) {
        Rule found = null;
        for (Rule rule : rules) {
            found = rule.from <= day ? rule : found;
        }
        return found;
    }

    private boolean isFast(int day) {
        Rule rule = ruleOn(day);
        if (rule == null || rankHeld(day) >= 3) {
            return false;
        }
        boolean fast = rule.statements.contains("fast weekday " + day % 7);
        for (String statement : rule.statements) {
            if (statement.startsWith("fast from ")) {
                String[] words = statement.split(" ");
                fast |= spanHolds(Integer.parseInt(words[2]), Integer.parseInt(words[4]), day % 365);
            }
        }
        return fast;
    }

    /** Goes from the first day to the second one, day by day, over the year's end if need be. */
    private static boolean spanHolds(int from, int to, int y) {
        int last = to < from ? to + 1000 : to;
        for (int at = from; at <= last; at++) {
            int day = at >= 1000 ? at - 1000 : at;
            if (day == y) {
                return true;
            }
        }
        return false;
    }

    private int shareOfHead(int day) {
        int share = told(day, "feed", 2);
        if (rankHeld(day) > 0) {
            share = told(day, "feed rank " + rankHeld(day), share);
        }
        return isFast(day) ? told(day, "feed fast", share) : share;
    }

    /** The number behind the last statement of some words, or another one if there is none. */
    private int told(int day, String words, int otherwise) {
        Rule rule = ruleOn(day);
        int found = otherwise;
        for (String statement : rule == null ? List.<String>of() : rule.statements) {
            int blank = statement.lastIndexOf(' ');
            if (statement.substring(0, blank).equals(words)) {
                found = Integer.parseInt(statement.substring(blank + 1));
            }
        }
        return found;
    }

    private boolean isAble(int monk, int day) {
        return monks.get(monk).came <= day && aways.stream()
                .noneMatch(row -> row.of == monk && row.from <= day && day <= row.to);
    }

    /** Gives a duty that nobody has to whoever should have it, but not to the one who fails. */
    private int assign(int day, int duty, int failing) {
        int best = NONE;
        for (int monk = monks.size() - 1; monk >= 0; monk--) {
            boolean can = monk != failing && isAble(monk, day) && (monks.get(monk).bars >> duty) % 2 == 0
                    && !holders.get(day).containsValue(monk);
            if (can && (best == NONE || turns(monk, duty) <= turns(best, duty))) {
                best = monk;
            }
        }
        if (best != NONE) {
            holders.get(day).put(duty, best);
        }
        return best;
    }

    private void gifts(int day) {
        for (int number = 0; number < gifts.size(); number++) {
            int of = number;
            Gift gift = gifts.get(number);
            boolean due = gift.n == (gift.weekly ? day % 7 : day % 365);
            boolean spared = leaves.stream()
                    .anyMatch(row -> row.of == of && row.from <= day && day <= row.to);
            for (int i = 0; due && i < (gift.doubled ? 2 : 1); i++) {
                masses.add(new Mass(day, number, spared ? Happened.SPARED : Happened.OWED));
            }
        }
    }

    private int sayMasses(int day) {
        int said = 0;
        for (int monk = 0; monk < monks.size(); monk++) {
            if (monks.get(monk).priest && isAble(monk, day) && owedInAll() > 0) {
                masses.add(new Mass(day, giftWithMost(), Happened.SAID));
                said++;
            }
        }
        return said;
    }

    private int giftWithMost() {
        int most = 0;
        for (int gift = 1; gift < gifts.size(); gift++) {
            most = owed(gift) > owed(most) ? gift : most;
        }
        return most;
    }

    private int masses(int gift, Happened what) {
        return (int) masses.stream().filter(m -> m.gift == gift && m.what == what).count();
    }

    private int owed(int gift) {
        return masses(gift, Happened.OWED) - masses(gift, Happened.SAID);
    }

    private int owedInAll() {
        int sum = 0;
        for (int gift = 0; gift < gifts.size(); gift++) {
            sum += owed(gift);
        }
        return sum;
    }

    private int inStore() {
        int came = stores.stream().mapToInt(Integer::intValue).sum();
        return came - days.stream().mapToInt(Told::used).sum();
    }

    private int heads() {
        return guests.stream().mapToInt(Guests::many).sum();
    }
}
