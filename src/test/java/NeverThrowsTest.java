import java.util.Random;

/** No call throws, whatever its arguments and however many calls came ahead of it. */
public final class NeverThrowsTest {
    private static final int[] EDGES = {-2, -1, 0, 1, 2, 3, 4, 5, 7, 8, 15, 16, 20, 364, 365, 600,
        601, 1094, 1095, Integer.MAX_VALUE, Integer.MIN_VALUE};
    private static final String[] WORDS = {"fast ", "weekday ", "from ", "to ", "feed ", "rank ",
        "guest ", "1 ", "23 ", "400 ", "1000 ", "; ", ";", "\n", "x ", "feed 1; ", "fast weekday 3; "};
    private static final Random RANDOM = new Random(3);

    public static void main(String[] args) {
        for (int run = 0; run < 60; run++) {
            AbbeyHours x = new AbbeyHours();
            for (int i = 0; i < 3000; i++) {
                call(x, RANDOM.nextInt(24));
            }
        }
        System.out.println("no call has thrown");
    }

    private static int any() {
        switch (RANDOM.nextInt(4)) {
            case 0:
                return EDGES[RANDOM.nextInt(EDGES.length)];
            case 1:
                return RANDOM.nextInt(1100);
            default:
                return RANDOM.nextInt(8);
        }
    }

    private static int call(AbbeyHours x, int which) {
        switch (which) {
            case 0: return x.monk(RANDOM.nextBoolean(), any());
            case 1: return x.away(any(), any(), any());
            case 2: return x.feast(any(), any());
            case 3: return x.held(any());
            case 4: return x.when(any());
            case 5: return x.light(any(), any());
            case 6: return x.office(any(), any());
            case 7: return x.late(any(), any(), any());
            case 8: return x.feed(any(), any(), any(), any(), any());
            case 9: return x.rule(any());
            case 10: return x.fault();
            case 11: return x.fast(any(), any());
            case 12: return x.gift(RANDOM.nextBoolean(), any(), RANDOM.nextBoolean());
            case 13: return x.leave(any(), any(), any());
            case 14: return x.giftOf(any(), any());
            case 15: return x.store(any());
            case 16: return x.guests(any(), any());
            case 17: return x.day();
            case 18: return x.turn(any(), any());
            case 19: return x.turns(any(), any());
            case 20: return x.fail(any());
            case 21: return x.dayOf(any(), any());
            case 22: return x.count(any());
            default: return x.rule(text(x));
        }
    }

    private static int text(AbbeyHours x) {
        x.rule(x.count(10));
        StringBuilder words = new StringBuilder();
        for (int i = RANDOM.nextInt(20); i > 0; i--) {
            words.append(WORDS[RANDOM.nextInt(WORDS.length)]);
        }
        Due.feedText(x, words.toString());
        return words.length();
    }
}
