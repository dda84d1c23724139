import java.util.ArrayList;
import java.util.List;
import java.util.Random;

/** Promises 4, 5 and 6: feasts, and on which days they are held. */
public final class FeastsTest {
    private static final Due DUE = new Due();

    public static void main(String[] args) {
        wrongFeasts();
        fortyFeasts();
        greaterOneIsHeld();
        putOffGivesWayToOneThatFalls();
        greaterPutOffWins();
        lesserNumberOfEquals();
        yearsEnd();
        asAPlainModel();
        DUE.end();
    }

    private static void wrongFeasts() {
        AbbeyHours x = new AbbeyHours();
        DUE.is("4: feast(-1, 1)", x.feast(-1, 1), -1);
        DUE.is("4: feast(365, 1)", x.feast(365, 1), -1);
        DUE.is("4: feast(0, 0)", x.feast(0, 0), -1);
        DUE.is("4: feast(0, 5)", x.feast(0, 5), -1);
        DUE.is("4: count(2)", x.count(2), 0);
        DUE.is("4: feast(0, 1)", x.feast(0, 1), 0);
        DUE.is("4: feast(364, 4)", x.feast(364, 4), 1);
        DUE.is("5: held(-1)", x.held(-1), -1);
        DUE.is("5: held(365)", x.held(365), -1);
        DUE.is("5: held(0)", x.held(0), 0);
        DUE.is("5: held(364)", x.held(364), 1);
        DUE.is("5: held(1)", x.held(1), -1);
        DUE.is("6: when(-1)", x.when(-1), -1);
        DUE.is("6: when(2)", x.when(2), -1);
        DUE.is("6: when(0)", x.when(0), 0);
        DUE.is("6: when(1)", x.when(1), 364);
    }

    private static void fortyFeasts() {
        AbbeyHours x = new AbbeyHours();
        for (int i = 0; i < 40; i++) {
            DUE.is("4: feast " + i, x.feast(i, 1), i);
        }
        DUE.is("4: the 41st", x.feast(100, 4), -1);
        DUE.is("4: held(100)", x.held(100), -1);
        DUE.is("4: count(2)", x.count(2), 40);
        DUE.is("5: held(39)", x.held(39), 39);
    }

    private static void greaterOneIsHeld() {
        AbbeyHours x = new AbbeyHours();
        x.feast(10, 1);
        DUE.is("5: held(10) alone", x.held(10), 0);
        x.feast(10, 2);
        DUE.is("5: held(10) by the greater", x.held(10), 1);
        DUE.is("6: rank 1 isn't put off", x.when(0), -1);
        DUE.is("5: held(11)", x.held(11), -1);
        x.feast(10, 3);
        DUE.is("6: when(2)", x.when(2), 10);
        DUE.is("6: rank 2 is put off", x.when(1), 11);
    }

    private static void putOffGivesWayToOneThatFalls() {
        AbbeyHours x = new AbbeyHours();
        x.feast(10, 4);
        x.feast(10, 2);
        x.feast(11, 2);
        DUE.is("5: held(11) by the one that falls on it", x.held(11), 2);
        DUE.is("6: when(1), put off twice", x.when(1), 12);
        x.feast(12, 1);
        DUE.is("5: held(12), the greater one was put off", x.held(12), 1);
        DUE.is("6: when(3)", x.when(3), -1);
    }

    private static void greaterPutOffWins() {
        AbbeyHours x = new AbbeyHours();
        x.feast(20, 4);
        x.feast(20, 3);
        x.feast(21, 2);
        DUE.is("6: when(1)", x.when(1), 21);
        DUE.is("6: when(2)", x.when(2), 22);
    }

    private static void lesserNumberOfEquals() {
        AbbeyHours x = new AbbeyHours();
        x.feast(31, 3);
        x.feast(30, 3);
        x.feast(30, 3);
        x.feast(30, 3);
        DUE.is("6: when(1)", x.when(1), 30);
        DUE.is("6: when(0)", x.when(0), 31);
        DUE.is("6: when(2)", x.when(2), 32);
        DUE.is("6: when(3)", x.when(3), 33);
    }

    private static void yearsEnd() {
        AbbeyHours x = new AbbeyHours();
        x.feast(364, 4);
        x.feast(364, 4);
        x.feast(363, 2);
        x.feast(363, 2);
        DUE.is("6: when(0)", x.when(0), 364);
        DUE.is("6: put off behind day 364", x.when(1), -1);
        DUE.is("6: when(2)", x.when(2), 363);
        DUE.is("6: when(3)", x.when(3), -1);
        DUE.is("5: held(0)", x.held(0), -1);
        DUE.is("5: held(1)", x.held(1), -1);
    }

    private static void asAPlainModel() {
        Random random = new Random(7);
        for (int run = 0; run < 60; run++) {
            int span = run % 3 == 0 ? 365 : 6 + run;
            int first = run % 2 == 0 ? 0 : 365 - span;
            int[] days = new int[40];
            int[] ranks = new int[40];
            AbbeyHours x = new AbbeyHours();
            for (int i = 0; i < 40; i++) {
                days[i] = first + random.nextInt(span);
                ranks[i] = 1 + random.nextInt(4);
                x.feast(days[i], ranks[i]);
            }
            compare(run, x, days, ranks);
        }
    }

    private static void compare(int run, AbbeyHours x, int[] days, int[] ranks) {
        int[] when = new int[days.length];
        java.util.Arrays.fill(when, -1);
        List<Integer> putOff = new ArrayList<>();
        for (int y = 0; y < 365; y++) {
            final int today = y;
            List<Integer> all = new ArrayList<>(putOff);
            for (int i = 0; i < days.length; i++) {
                if (days[i] == y) {
                    all.add(i);
                }
            }
            all.sort((a, b) -> ranks[a] != ranks[b] ? ranks[b] - ranks[a]
                    : (days[a] == today) != (days[b] == today) ? (days[a] == today ? -1 : 1)
                    : a - b);
            DUE.is("5: run " + run + ": held(" + y + ")", x.held(y), all.isEmpty() ? -1 : all.get(0));
            putOff.clear();
            for (int i = 0; i < all.size(); i++) {
                if (i == 0) {
                    when[all.get(i)] = y;
                } else if (ranks[all.get(i)] >= 2) {
                    putOff.add(all.get(i));
                }
            }
        }
        for (int i = 0; i < days.length; i++) {
            DUE.is("6: run " + run + ": when(" + i + ")", x.when(i), when[i]);
        }
    }
}
