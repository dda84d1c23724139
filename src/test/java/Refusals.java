import java.util.ArrayList;
import java.util.LinkedHashMap;
import java.util.List;
import java.util.Map;

/**
 * Calls that do nothing. Two objects are brought to the same state and one of them gets the call:
 * whatever is asked of both behind it must be answered alike. Each group of questions has two
 * objects of its own, since an object answers for 512 calls alone.
 */
final class Refusals {
    /** Brings a new object to some state. */
    interface State {
        void bring(AbbeyHours x);
    }

    /** A call that is refused. */
    interface Call {
        int on(AbbeyHours x);
    }

    /** A call with one argument that is in question. */
    interface CallWith {
        int on(AbbeyHours x, int value);
    }

    private interface Questions {
        void ask(AbbeyHours x, List<Integer> answers);
    }

    private static final Map<String, Questions> ALL = new LinkedHashMap<>();

    static {
        ALL.put("counts, turns and masses", Refusals::figures);
        ALL.put("feasts", Refusals::feasts);
        ALL.put("offices", Refusals::offices);
        ALL.put("fasts", Refusals::fasts);
        ALL.put("the tape's bytes", Refusals::tape);
        ALL.put("days gone by", Refusals::gone);
        ALL.put("days to come", Refusals::toCome);
        ALL.put("who steps in", Refusals::stepIn);
        ALL.put("room for monks, gifts and their rows", Refusals::roomForRows);
        ALL.put("room for bells, guests and food", Refusals::roomForBells);
        ALL.put("room for feasts, bytes and rules", Refusals::roomForTexts);
    }

    private final Due due;

    Refusals(Due answers) {
        due = answers;
    }

    static void fresh(AbbeyHours x) {
        // A new object is a state, too.
    }

    /** On day 3, with something of every kind, a fault told and bytes left on the tape. */
    static void busy(AbbeyHours x) {
        for (int i = 0; i < 5; i++) {
            x.monk(i % 2 == 0, i == 0 ? 0 : 1 << i - 1);
        }
        x.feast(5, 2);
        x.feast(5, 4);
        x.feast(364, 3);
        x.feast(6, 1);
        x.gift(true, 0, true);
        x.gift(false, 6, false);
        x.gift(true, 3, true);
        x.away(1, 2, 4);
        x.leave(0, 7, 7);
        x.late(4, 2, 30);
        Due.takeRule(x, "fast weekday 3; feed fast 1; feed rank 4 6; feed 3; feed guest 4;");
        x.store(500);
        Due.goBy(x, 3);
        Due.takeRule(x, "feed x;");
        x.guests(7, 2);
        Due.feedText(x, "feed 9; fast weekday 5;");
    }

    /** In a state, a call has an answer and does nothing. */
    void is(String what, State state, Call call, int want) {
        due.is(what, call.on(brought(state)), want);
        for (Map.Entry<String, Questions> group : ALL.entrySet()) {
            AbbeyHours x = brought(state);
            AbbeyHours twin = brought(state);
            call.on(x);
            List<Integer> answers = answers(group.getValue(), x);
            List<Integer> others = answers(group.getValue(), twin);
            due.holds(what + " changed " + group.getKey() + ": " + answers + ", due is " + others,
                    answers.equals(others));
        }
    }

    /** The same of a new object and of a busy one. */
    void is(String what, Call call, int want) {
        is(what + " on a new object", Refusals::fresh, call, want);
        is(what + " on a busy object", Refusals::busy, call, want);
    }

    /** Values just below and above a range, and the least and greatest of all, are refused. */
    void outside(String what, int least, int most, CallWith call, int want) {
        for (int value : new int[] {least - 1, most + 1, Integer.MIN_VALUE, Integer.MAX_VALUE}) {
            is(what + " " + value, x -> call.on(x, value), want);
        }
    }

    private static AbbeyHours brought(State state) {
        AbbeyHours x = new AbbeyHours();
        state.bring(x);
        return x;
    }

    private static List<Integer> answers(Questions questions, AbbeyHours x) {
        List<Integer> answers = new ArrayList<>();
        questions.ask(x, answers);
        return answers;
    }

    private static void figures(AbbeyHours x, List<Integer> answers) {
        for (int what = -1; what <= 11; what++) {
            answers.add(x.count(what));
        }
        answers.add(x.fault());
        for (int monk = 0; monk <= 24; monk++) {
            for (int duty = 0; duty <= 4; duty++) {
                answers.add(x.turns(monk, duty));
            }
        }
        masses(x, answers);
    }

    private static void masses(AbbeyHours x, List<Integer> answers) {
        for (int gift = 0; gift <= 40; gift++) {
            for (int what = 0; what <= 2; what++) {
                answers.add(x.giftOf(gift, what));
            }
        }
    }

    private static void feasts(AbbeyHours x, List<Integer> answers) {
        for (int y = 0; y < 365; y++) {
            answers.add(x.held(y));
        }
        for (int feast = 0; feast <= 40; feast++) {
            answers.add(x.when(feast));
        }
    }

    private static void offices(AbbeyHours x, List<Integer> answers) {
        for (int k = 0; k < 8; k++) {
            for (int day = 0; day < 24; day++) {
                answers.add(x.office(day, k));
            }
            for (int day : new int[] {172, 355, 364, 365, 1093, 1094}) {
                answers.add(x.office(day, k));
            }
        }
    }

    private static void fasts(AbbeyHours x, List<Integer> answers) {
        for (int what = 0; what <= 3; what++) {
            for (int day = 0; day < 30; day++) {
                answers.add(x.fast(day, what));
            }
            for (int day = 360; day < 380; day++) {
                answers.add(x.fast(day, what));
            }
            answers.add(x.fast(1094, what));
        }
    }

    private static void tape(AbbeyHours x, List<Integer> answers) {
        answers.add(x.rule(x.count(10)));
        answers.add(x.fault());
        answers.add(x.count(10));
        for (int day = x.count(0); day < x.count(0) + 8; day++) {
            for (int what = 0; what <= 3; what++) {
                answers.add(x.fast(day, what));
            }
        }
    }

    private static void gone(AbbeyHours x, List<Integer> answers) {
        for (int day = 0; day < x.count(0); day++) {
            dayGone(x, day, answers);
        }
    }

    private static void dayGone(AbbeyHours x, int day, List<Integer> answers) {
        for (int duty = 0; duty <= 3; duty++) {
            answers.add(x.turn(day, duty));
        }
        for (int what = 0; what <= 4; what++) {
            answers.add(x.dayOf(day, what));
        }
    }

    private static void toCome(AbbeyHours x, List<Integer> answers) {
        for (int i = 0; i < 9; i++) {
            answers.add(x.day());
            dayGone(x, x.count(0) - 1, answers);
        }
        masses(x, answers);
        for (int what = 0; what <= 10; what++) {
            answers.add(x.count(what));
        }
    }

    private static void stepIn(AbbeyHours x, List<Integer> answers) {
        for (int i = 0; i < 12; i++) {
            answers.add(x.fail(i % 4));
            answers.add(x.turn(x.count(0) - 1, i % 4));
        }
        for (int monk = 0; monk < 24; monk++) {
            answers.add(x.turns(monk, 4));
        }
    }

    /** The answers of one call again and again, up to the first one below 0. */
    private static void tillRefused(AbbeyHours x, Call call, List<Integer> answers) {
        int answer = 0;
        for (int i = 0; i < 300 && answer >= 0; i++) {
            answer = call.on(x);
            answers.add(answer);
        }
    }

    private static void roomForRows(AbbeyHours x, List<Integer> answers) {
        int last = 1094;
        tillRefused(x, y -> y.monk(true, 0), answers);
        tillRefused(x, y -> y.gift(true, 0, false), answers);
        tillRefused(x, y -> y.away(0, last, last), answers);
        tillRefused(x, y -> y.leave(0, last, last), answers);
    }

    private static void roomForBells(AbbeyHours x, List<Integer> answers) {
        int rows = 0;
        for (int day = 1000; rows >= 0 && day < 1020; day++) {
            for (int k = 0; rows >= 0 && k < 8; k++) {
                rows = x.late(day, k, 1);
                answers.add(rows);
            }
        }
        for (int many : new int[] {50, 10, 1}) {
            tillRefused(x, y -> y.guests(many, 0), answers);
        }
        for (int much : new int[] {10_000, 1_000, 100, 10, 1}) {
            tillRefused(x, y -> y.store(much), answers);
        }
    }

    private static void roomForTexts(AbbeyHours x, List<Integer> answers) {
        tillRefused(x, y -> y.feast(200, 2), answers);
        tillRefused(x, y -> y.feed(0, 0, 0, 0, 0), answers);
        tillRefused(x, y -> y.rule(0), answers);
    }
}
