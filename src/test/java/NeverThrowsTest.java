import java.util.Random;

/** No call throws, whatever its arguments are and however long the object has been in use. */
public final class NeverThrowsTest {
    private static final Due due = new Due("NeverThrowsTest");
    private static final int[] ODD = {Integer.MIN_VALUE, Integer.MIN_VALUE + 1, -1000000001, -9999, -21, -20, -2, -1, 0, 1, 2, 3, 5, 6, 8, 9, 17, 18, 20, 21,
        60, 200, 999, 2000, 5000, 9999, 99999, Integer.MAX_VALUE - 1, Integer.MAX_VALUE};

    private static long call(BoardClock x, int which, int a, int b, int c) {
        switch (which) {
            case 0: return x.told(a);
            case 1: return x.time(a);
            case 2: return x.calendar(a);
            case 3: return x.span(a, b);
            case 4: return x.alarmAt(a, b);
            case 5: return x.tick(a);
            case 6: return x.warm(a);
            case 7: return x.crystal(a, b, c);
            case 8: return x.bound(a, b);
            case 9: return x.power(a > 0);
            case 10: return x.hear(a, b);
            case 11: return x.alarm(a, b, c);
            case 12: return x.drop(a);
            case 13: return x.learn(a, b);
            case 14: return x.drift(a);
            case 15: return x.undo(a);
            case 16: return x.evenly(a, b, c);
            case 17: return x.after(a);
            case 18: return x.rings(a);
            case 19: return x.untilWide(a);
            case 20: return x.write(a);
            case 21: return x.tear();
            case 22: return x.seed(a);
            case 23: return x.keep(a);
            default: return x.goBack(a);
        }
    }

    /** The least answer that a call may give, besides refusals: time() and after() tell whole times. */
    private static boolean isPlain(int which, long answer) {
        boolean refusal = answer <= BoardClock.UNKNOWN && answer >= BoardClock.FULL;
        return which == 1 || answer >= -1 || (refusal && which != 17);
    }

    public static void main(String[] args) {
        for (int run = 0; run < 40; run++) {
            Random random = new Random(run);
            BoardClock x = new BoardClock();
            long board = 0;
            for (int i = 0; i < 5000; i++) {
                int which = random.nextInt(25);
                int a = ODD[random.nextInt(ODD.length)], b = ODD[random.nextInt(ODD.length)], c = ODD[random.nextInt(ODD.length)];
                String text = run + ": call " + which + " of " + a + ", " + b + ", " + c;
                try {
                    due.holds(text + " is plain", isPlain(which, call(x, which, a, b, c)));
                    if (which != 15 && which != 24) due.holds(text + " never goes back", x.time(1) >= board);
                    due.holds(text + " leaves the rest in its bounds", x.told(3) >= 0 && x.told(3) <= 15);
                    due.holds(text + " leaves the width in its bounds", x.told(5) >= 0 && x.told(5) <= 999999999);
                    board = x.time(1);
                } catch (RuntimeException e) {
                    due.holds(text + " threw " + e, false);
                }
            }
        }
        due.end();
    }
}
