/** Promises 7 to 17: tick, warm, crystal, bound, power, hear, alarm, drop, learn, drift, undo. */
public final class DeedsTest {
    private static final Due due = new Due("DeedsTest");
    private static final int UNKNOWN = BoardClock.UNKNOWN, OUTSIDE = BoardClock.OUTSIDE, NOT = BoardClock.NOT, FULL = BoardClock.FULL;

    /** A refused call answers so and changes nothing, not even what can be undone. */
    private static void refused(BoardClock x, String before, String call, long got, long want) {
        due.is(call, got, want);
        due.alike(call + " changes nothing", Due.picture(x), before);
    }

    private static void tick() {
        BoardClock x = new BoardClock();
        x.learn(4, 7);
        x.bound(0, 3);
        x.hear(8, 0);
        due.is("tick(1)", x.tick(1), 0);
        due.is("rest 9, a beat back, 3 ahead", x.time(1), 60000 - 1 + 3);
        due.is("rest", x.told(3), 9);
        due.is("aim", x.time(2), 60000 - 1 + 8);
        x.tick(2);
        due.is("rest 2, then 11 and another beat back, ahead done", x.time(1), 180000 - 2 + 8);
        due.is("rest", x.told(3), 11);
        due.is("ahead", x.told(4), 1);
        due.is("width", x.told(5), 480);
        x.power(false);
        x.tick(2);
        due.is("by battery nothing learned is taken", x.time(1), 300000 - 2 + 8);
        due.is("by battery the rest stays", x.told(3), 11);
        due.is("by battery four times as wide", x.told(5), 480 + 2 * 640);
        String before = Due.picture(x);
        for (int n : new int[] {0, -1, 2001, Integer.MIN_VALUE, Integer.MAX_VALUE}) refused(x, before, "tick(" + n + ")", x.tick(n), OUTSIDE);
    }

    /** Every sum of the sixteenths, to either side, is parted rounded down. */
    private static void restIsRoundedDown() {
        for (int learned : new int[] {1, -1, 15, -15, 16, -16, 17, -17, 9999, -9999}) {
            BoardClock x = new BoardClock();
            x.learn(4, learned);
            long sum = 0;
            for (int i = 1; i <= 17; i++) {
                x.tick(1);
                sum -= learned;
                due.is("beats of " + i + " ticks, learned " + learned, x.time(1) - x.time(0), Math.floorDiv(sum, 16L));
                due.is("rest of " + i + " ticks, learned " + learned, x.told(3), Math.floorMod(sum, 16L));
            }
        }
    }

    private static void stepsBack() {
        BoardClock x = new BoardClock();
        x.hear(-50, 0);
        long was = x.time(1);
        int[] go = {59980, 59980, 59990, 60000};
        for (int i = 0; i < 4; i++) {
            x.tick(1);
            due.is("step back " + i, x.time(1) - was, go[i]);
            was = x.time(1);
        }
    }

    private static void widthHasAnEnd() {
        BoardClock x = new BoardClock();
        x.bound(1, 999);
        x.power(false);
        for (int i = 0; i < 125; i++) x.tick(2000);
        due.is("width near its end", x.told(5), 999000000);
        x.tick(250);
        due.is("width just below its end", x.told(5), 999999000);
        x.tick(1);
        due.is("width at its end", x.told(5), 999999999);
        x.tick(2000);
        due.is("width stays there", x.told(5), 999999999);
        due.is("heard, not broken", x.hear(0, 5000), 0);
        due.is("width heard", x.told(5), 80000);
    }

    private static void rings() {
        BoardClock x = new BoardClock();
        x.alarm(0, -1, -1);
        x.alarm(-1, -1, -1);
        x.alarm(2, 0, 0);
        x.alarm(3, 1, -1);
        due.is("minute 1", x.tick(1), 2);
        due.is("minute 2", x.tick(1), 6);
        due.is("minutes to 59", x.tick(57), 2);
        due.is("minute 60", x.tick(1), 3);
        due.is("minute 63", x.tick(3), 10);
        due.is("rings of 1", x.alarmAt(1, 3), 63);
        due.is("rings of 3", x.alarmAt(3, 3), 1);
        due.is("rings of all", x.told(13), 1 + 63 + 1 + 1);
    }

    /** A slow minute rings none, a fast one two: none is lost, none doubled. */
    private static void ringsByBoardTime() {
        BoardClock x = new BoardClock();
        x.alarm(-1, -1, -1);
        x.warm(-20);
        due.is("a slow minute is not yet there", x.tick(1), 0);
        due.is("but the next", x.tick(1), 1);
        due.is("once", x.told(13), 1);
        x.warm(25);
        x.learn(4, -9999);
        due.is("two minutes at once", x.tick(1), 1);
        due.is("both are rung", x.told(13), 3);
        due.is("minute", x.calendar(0), 3);
    }

    private static void ringsHaveAnEnd() {
        BoardClock x = new BoardClock();
        x.alarm(-1, -1, -1);
        for (int i = 0; i < 49; i++) x.tick(2000);
        x.tick(1990);
        due.is("rings", x.told(13), 99990);
        due.is("rings(20) as counted", x.rings(20), 9);
        due.is("tick(20)", x.tick(20), 1);
        due.is("rings at their end", x.alarmAt(0, 3), 99999);
        due.is("it rings all the same", x.tick(1), 1);
        due.is("rings stay", x.told(13), 99999);
        due.is("rings(1)", x.rings(1), 0);
    }

    private static void warm() {
        BoardClock x = new BoardClock();
        due.is("warm(-20)", x.warm(-20), 45);
        due.is("warm(69)", x.warm(69), 0);
        due.is("warm(0)", x.warm(0), 89);
        due.is("warmth", x.told(0), 20);
        String before = Due.picture(x);
        for (int t : new int[] {-21, 70, Integer.MIN_VALUE, Integer.MAX_VALUE}) refused(x, before, "warm(" + t + ")", x.warm(t), OUTSIDE);
    }

    private static void crystal() {
        BoardClock x = new BoardClock();
        due.is("crystal(40, 20, 9)", x.crystal(40, 20, 9), 10009 - 45);
        due.is("crystal(0, 0, -9)", x.crystal(0, 0, -9), 9991);
        x.warm(69);
        due.is("crystal(0, 20, -9)", x.crystal(0, 20, -9), 10000 - 9 - 952);
        x.tick(1);
        due.is("a tick by it", x.time(1), 60000 - 961);
        String before = Due.picture(x);
        int[][] wrong = {{-1, 3, 0}, {41, 3, 0}, {25, -1, 0}, {25, 21, 0}, {25, 3, -10}, {25, 3, 10}, {Integer.MAX_VALUE, Integer.MIN_VALUE, 0}};
        for (int[] w : wrong) refused(x, before, "crystal(" + w[0] + ", " + w[1] + ", " + w[2] + ")", x.crystal(w[0], w[1], w[2]), OUTSIDE);
    }

    private static void bound() {
        BoardClock x = new BoardClock();
        due.is("bound(0, 200)", x.bound(0, 200), 20);
        due.is("bound(0, 1)", x.bound(0, 1), 200);
        due.is("bound(1, 999)", x.bound(1, 999), 160);
        due.is("bound(1, 0)", x.bound(1, 0), 999);
        due.is("step", x.told(6), 1);
        due.is("wider", x.told(7), 0);
        String before = Due.picture(x);
        int[][] wrong = {{0, 0}, {0, 201}, {1, -1}, {1, 1000}, {-1, 5}, {2, 5}, {Integer.MIN_VALUE, 5}, {0, Integer.MIN_VALUE}, {1, Integer.MAX_VALUE}};
        for (int[] w : wrong) refused(x, before, "bound(" + w[0] + ", " + w[1] + ")", x.bound(w[0], w[1]), OUTSIDE);
    }

    private static void power() {
        BoardClock x = new BoardClock();
        due.is("power(true)", x.power(true), 1);
        due.is("power(false)", x.power(false), 1);
        due.is("power(false) again", x.power(false), 0);
        due.is("told(8)", x.told(8), 0);
        due.is("power(true) again", x.power(true), 0);
        due.is("each is a deed", x.told(17), 4);
    }

    private static void hearBounds() {
        BoardClock x = new BoardClock();
        due.is("bounds that touch are not broken", x.hear(100, 100), 0);
        due.is("aim", x.time(2), 0);
        due.is("width", x.told(5), 0);
        due.is("bounds that do not", x.hear(101, 100), 1);
        due.is("aim", x.time(2), 101);
        due.is("width", x.told(5), 1600);
        due.is("narrower", x.hear(150, 100), 0);
        due.is("aim: 50 to 201 has its middle at 125", x.time(2), 125);
        due.is("width: to 201", x.told(5), 76 * 16);
        BoardClock y = new BoardClock();
        y.hear(-100, 7);
        due.is("aim below 0", y.time(2), -100);
        y.hear(-110, 6);
        due.is("aim: -107 to -104 rounded down", y.time(2), -106);
        due.is("width: to -104", y.told(5), 32);
        due.is("broken", y.told(10), 1);
        BoardClock z = new BoardClock();
        z.bound(1, 1);
        z.tick(31);
        due.is("heard 17 ahead, exact to 16", z.hear(17, 16), 0);
        due.is("aim: 16 to 31 sixteenths, 47 / 32", z.time(2) - z.time(0), 1);
        due.is("width: to 31", z.told(5), 15);
        z.undo(1);
        z.hear(16, 16);
        due.is("aim: 0 to 31 sixteenths, 31 / 32", z.time(2) - z.time(0), 0);
        due.is("width: to 31", z.told(5), 31);
        String before = Due.picture(y);
        int[][] wrong = {{-10000, 0}, {10000, 0}, {0, -1}, {0, 5001}, {Integer.MIN_VALUE, 0}, {0, Integer.MIN_VALUE}, {0, Integer.MAX_VALUE}};
        for (int[] w : wrong) refused(y, before, "hear(" + w[0] + ", " + w[1] + ")", y.hear(w[0], w[1]), OUTSIDE);
        due.is("hear(9999, 5000)", y.hear(9999, 5000), 1);
        due.is("hear(-9999, 0)", y.hear(-9999, 0), 1);
    }

    private static void hearLearns() {
        BoardClock x = new BoardClock();
        x.hear(50, 0);
        due.is("no tick, nothing learned", x.span(4, 0), 10000);
        x.hear(0, 0);
        x.tick(3);
        x.warm(-20);
        x.hear(10, 0);
        due.is("-10 * 16 / 6 is cut towards 0", x.span(4, 0), 10000 - 26);
        due.is("of the span of the ticks, not of now", x.span(0, 0), 10000);
        x.tick(1);
        x.warm(25);
        x.tick(1);
        x.hear(0, 0);
        due.is("two spans, nothing learned", x.span(4, 0), 9974);
        due.is("in neither", x.span(0, 0), 10000);
        x.power(false);
        x.tick(1);
        x.power(true);
        x.tick(1);
        x.hear(500, 0);
        due.is("once without power, nothing learned", x.span(4, 0), 9974);
        x.warm(20);
        x.tick(1);
        x.warm(29);
        x.tick(1);
        x.hear(0, 0);
        due.holds("two warmths of one span teach", x.span(4, 0) != 9974);
        x.learn(4, 9000);
        x.tick(1);
        x.hear(-9999, 0);
        due.is("held at 9999", x.span(4, 0), 19999);
        x.learn(4, -9000);
        x.tick(1);
        x.hear(9999, 0);
        due.is("held at -9999", x.span(4, 0), 1);
        x.hear(0, 0);
        x.learn(4, 0);
        x.tick(1);
        x.tick(1);
        long aim = x.time(2), error = x.time(0) + 100;
        x.hear(100, 5000);
        due.is("learned from aim as it was", x.span(4, 0), 10000 + (aim - error) * 16 / 4);
    }

    private static void alarm() {
        BoardClock x = new BoardClock();
        int[][] wrong = {{-2, 0, 0}, {60, 0, 0}, {0, -2, 0}, {0, 24, 0}, {0, 0, -2}, {0, 0, 7}, {Integer.MIN_VALUE, 0, 0}, {0, 0, Integer.MAX_VALUE}};
        String before = Due.picture(x);
        for (int[] w : wrong) refused(x, before, "alarm(" + w[0] + ", " + w[1] + ", " + w[2] + ")", x.alarm(w[0], w[1], w[2]), OUTSIDE);
        for (int i = 0; i < 6; i++) due.is("alarm " + i, x.alarm(59, 23, 6), i);
        before = Due.picture(x);
        refused(x, before, "a seventh alarm", x.alarm(-1, -1, -1), FULL);
        refused(x, before, "a seventh alarm, outside", x.alarm(60, -1, -1), OUTSIDE);
        due.is("alarms", x.told(12), 6);
    }

    private static void drop() {
        BoardClock x = new BoardClock();
        for (int i = 0; i < 6; i++) x.alarm(i, -1, -1);
        x.tick(3);
        due.is("rings of all", x.told(13), 3);
        due.is("drop(1)", x.drop(1), 5);
        due.is("later ones have one number less", x.alarmAt(1, 0), 2);
        due.is("with their rings", x.alarmAt(1, 3), 1);
        due.is("the last", x.alarmAt(4, 0), 5);
        due.is("none behind", x.alarmAt(5, 0), UNKNOWN);
        due.is("rings of those that are left", x.told(13), 2);
        String before = Due.picture(x);
        for (int a : new int[] {5, 6, -1, Integer.MIN_VALUE, Integer.MAX_VALUE}) refused(x, before, "drop(" + a + ")", x.drop(a), UNKNOWN);
        due.is("drop(4)", x.drop(4), 4);
        due.is("a new one", x.alarm(7, 7, -1), 4);
        due.is("has no rings", x.alarmAt(4, 3), 0);
        for (int i = 4; i >= 0; i--) due.is("drop(0)", x.drop(0), i);
        due.is("none left", x.drop(0), UNKNOWN);
        due.is("no rings left", x.told(13), 0);
        due.is("none to ring", x.tick(70), 0);
        due.is("none to come", x.rings(70), 0);
        x.alarm(-1, -1, -1);
        x.alarm(1, 2, 3);
        x.alarm(4, 5, 6);
        x.tick(2);
        due.is("rings of the first", x.alarmAt(0, 3), 2);
        x.drop(0);
        for (int i = 0; i < 3; i++) {
            due.is("the second is the first, " + i, x.alarmAt(0, i), 1 + i);
            due.is("the third is the second, " + i, x.alarmAt(1, i), 4 + i);
        }
        x.undo(1);
        due.is("undone: any weekday", x.alarmAt(0, 2), -1);
        due.is("undone: weekday 3", x.alarmAt(1, 2), 3);
        BoardClock y = new BoardClock();
        y.alarm(-1, -1, -1);
        y.tick(5);
        y.drop(0);
        y.alarm(-1, -1, -1);
        due.is("in the place of one that rang: no rings", y.alarmAt(0, 3), 0);
    }

    private static void learn() {
        BoardClock x = new BoardClock();
        due.is("learn(0, -9999)", x.learn(0, -9999), 10000);
        due.is("learn(0, 9999)", x.learn(0, 9999), 1);
        due.is("learn(8, 3)", x.learn(8, 3), 10000);
        due.is("span(0, 0)", x.span(0, 0), 19999);
        String before = Due.picture(x);
        refused(x, before, "learn(-1, 0)", x.learn(-1, 0), UNKNOWN);
        refused(x, before, "learn(9, 0)", x.learn(9, 0), UNKNOWN);
        refused(x, before, "learn(9, 10000)", x.learn(9, 10000), UNKNOWN);
        refused(x, before, "learn(8, 10000)", x.learn(8, 10000), OUTSIDE);
        refused(x, before, "learn(8, -10000)", x.learn(8, -10000), OUTSIDE);
    }

    private static void drift() {
        BoardClock x = new BoardClock();
        x.alarm(-1, -1, -1);
        String before = Due.picture(x);
        for (int n : new int[] {0, -1, 21, Integer.MIN_VALUE, Integer.MAX_VALUE}) refused(x, before, "drift(" + n + ")", x.drift(n), OUTSIDE);
        due.is("seed 0, first draw 0: it becomes warm", x.drift(1), 0);
        long seed = 0;
        int[] draws = new int[3];
        int[] of = {8, 90, 1001};
        for (int i = 0; i < 3; i++) {
            seed = (seed * 1103515245L + 12345L) % 2147483648L;
            draws[i] = (int) (seed / 65536 % of[i]);
        }
        due.is("the first draw", draws[0], 0);
        due.is("the warmth drawn", x.told(0), draws[1]);
        due.is("no tick", x.time(0), 0);
        due.is("each time is a deed", x.told(17), 2);
        due.is("the seed goes on by three draws", x.seed(0), seed);
        x.seed(353);
        x.drift(20);
        due.is("twenty times are twenty deeds", x.told(17), 20);
    }

    /** Each time by draws does what its draws say, as the call of that name would. */
    private static void driftDoesAsDrawn() {
        int[] kinds = new int[8];
        for (int start = 0; start < 200; start++) {
            BoardClock x = new BoardClock(), y = new BoardClock();
            for (BoardClock z : new BoardClock[] {x, y}) {
                z.alarm(-1, -1, -1);
                z.hear(-700 + 7 * start, 100);
                z.tick(3);
            }
            long seed = start * 10000019L;
            x.seed((int) seed);
            int[] draws = new int[3];
            int[] of = {8, 90, 1001};
            for (int i = 0; i < 3; i++) {
                seed = (seed * 1103515245L + 12345L) % 2147483648L;
                draws[i] = (int) (seed / 65536 % of[i]);
            }
            kinds[draws[0]]++;
            x.drift(1);
            if (draws[0] == 0) y.warm(draws[1] - 20);
            else if (draws[0] == 1) y.hear(draws[2] - 500, 500);
            else y.tick(1);
            due.alike("drift(1), draw " + draws[0], Due.picture(x), Due.picture(y));
        }
        for (int kind = 0; kind < 8; kind++) due.holds("draws of " + kind + " were seen", kinds[kind] > 0);
    }

    private static void undo() {
        BoardClock x = new BoardClock();
        due.is("undo(1) of nothing", x.undo(1), NOT);
        String[] pictures = new String[31];
        pictures[0] = Due.pictureButUndoable(x);
        for (int i = 1; i <= 30; i++) {
            someDeed(x, i);
            pictures[i] = Due.pictureButUndoable(x);
        }
        String before = Due.picture(x);
        due.is("20 at most", x.told(17), 20);
        for (int n : new int[] {0, -1, 21, Integer.MIN_VALUE, Integer.MAX_VALUE}) refused(x, before, "undo(" + n + ")", x.undo(n), OUTSIDE);
        due.is("undo(1)", x.undo(1), 19);
        due.alike("as ahead of the last", Due.pictureButUndoable(x), pictures[29]);
        due.is("undo(5)", x.undo(5), 14);
        due.alike("as ahead of six", Due.pictureButUndoable(x), pictures[24]);
        before = Due.picture(x);
        refused(x, before, "undo(15)", x.undo(15), NOT);
        someDeed(x, 25);
        due.alike("the same deed again", Due.pictureButUndoable(x), pictures[25]);
        due.is("undo(15)", x.undo(15), 0);
        due.alike("as ahead of all that are kept", Due.pictureButUndoable(x), pictures[10]);
        due.is("no more", x.undo(1), NOT);
    }

    private static void undoLeavesSeedAndBook() {
        BoardClock x = new BoardClock();
        x.seed(7);
        x.write(1);
        x.drift(2);
        x.undo(2);
        int after = x.seed(0);
        due.holds("the seed stays as drawn", after != 7);
        due.is("the book stays", x.told(15), 1);
        due.is("neither seed nor book is a deed", x.told(17), 0);
    }

    private static void someDeed(BoardClock x, int i) {
        switch (i % 10) {
            case 0: x.tick(i); break;
            case 1: x.alarm(-1, -1, -1); break;
            case 2: x.warm(i); break;
            case 3: x.crystal(i, 5, 1); break;
            case 4: x.bound(0, i); break;
            case 5: x.power(i % 20 == 5); break;
            case 6: x.hear(i * 10, 5); break;
            case 7: x.learn(i % 9, i); break;
            case 8: x.drop(0); break;
            default: x.bound(1, i); break;
        }
    }

    public static void main(String[] args) {
        tick();
        restIsRoundedDown();
        stepsBack();
        widthHasAnEnd();
        rings();
        ringsByBoardTime();
        ringsHaveAnEnd();
        warm();
        crystal();
        bound();
        power();
        hearBounds();
        hearLearns();
        alarm();
        drop();
        learn();
        drift();
        driftDoesAsDrawn();
        undo();
        undoLeavesSeedAndBook();
        due.end();
    }
}
