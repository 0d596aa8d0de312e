/** Promises 18 to 26: evenly, after, rings, untilWide, write, tear, seed, keep, goBack. */
public final class AskedBookImagesTest {
    private static final Due due = new Due("AskedBookImagesTest");
    private static final int UNKNOWN = BoardClock.UNKNOWN, OUTSIDE = BoardClock.OUTSIDE, NOT = BoardClock.NOT, FULL = BoardClock.FULL;

    private static void evenly() {
        BoardClock x = new BoardClock();
        String swallowed = "";
        for (int i = 0; i < 10; i++) swallowed += x.evenly(10, 3, i);
        due.alike("evenly(10, 3, ..)", swallowed, "0001001001");
        for (int n : new int[] {1, 7, 998, 999}) {
            for (int k : new int[] {0, 1, n / 2, n}) {
                int all = 0;
                for (int i = 0; i < n; i++) all += x.evenly(n, k, i);
                due.is("evenly(" + n + ", " + k + ", ..) in all", all, k);
            }
        }
        int[][] wrong = {{0, 0, 0}, {-1, 0, 0}, {1000, 1, 1}, {5, 6, 0}, {5, -1, 0}, {5, 2, 5}, {5, 2, -1},
            {Integer.MIN_VALUE, Integer.MIN_VALUE, Integer.MIN_VALUE}, {Integer.MAX_VALUE, 1, 1}, {5, 2, Integer.MAX_VALUE}};
        for (int[] w : wrong) due.is("evenly(" + w[0] + ", " + w[1] + ", " + w[2] + ")", x.evenly(w[0], w[1], w[2]), OUTSIDE);
    }

    private static BoardClock busy() {
        BoardClock x = new BoardClock();
        x.warm(3);
        x.learn(2, -37);
        x.hear(333, 7);
        x.alarm(-1, -1, -1);
        x.alarm(7, -1, -1);
        x.alarm(0, 6, -1);
        x.tick(5);
        return x;
    }

    private static void afterAndRings() {
        for (int n : new int[] {1, 2, 15, 60, 1999, 2000}) {
            BoardClock x = busy();
            String before = Due.picture(x);
            long board = x.after(n);
            int more = x.rings(n);
            due.alike("nothing changes by what is asked", Due.picture(x), before);
            int rings = x.told(13);
            x.tick(n);
            due.is("after(" + n + ")", board, x.time(1));
            due.is("rings(" + n + ")", more, x.told(13) - rings);
        }
        BoardClock x = busy();
        due.is("after(0)", x.after(0), x.time(1));
        due.is("rings(0)", x.rings(0), 0);
        due.is("after(10): off -14, 37 sixteenths and 20 ahead each", x.after(10) - x.after(0), 10 * (60000 - 14 + 20) + 37 * 15 / 16 - 37 * 5 / 16);
        for (int n : new int[] {-1, 2001, Integer.MIN_VALUE, Integer.MAX_VALUE}) {
            due.is("after(" + n + ")", x.after(n), -1);
            due.is("rings(" + n + ")", x.rings(n), OUTSIDE);
        }
    }

    private static void untilWide() {
        BoardClock x = new BoardClock();
        due.is("untilWide(0)", x.untilWide(0), 1);
        due.is("untilWide(10): 160 is not more", x.untilWide(10), 2);
        due.is("untilWide(9)", x.untilWide(9), 1);
        x.power(false);
        due.is("untilWide(10) by battery", x.untilWide(10), 1);
        due.is("untilWide(40) by battery", x.untilWide(40), 2);
        x.bound(1, 0);
        due.is("untilWide(0), never", x.untilWide(0), -1);
        x.hear(0, 0);
        x.hear(100, 10);
        due.is("untilWide(9), is so", x.untilWide(9), 0);
        due.is("untilWide(10), never", x.untilWide(10), -1);
        x.power(true);
        x.bound(1, 1);
        due.is("untilWide(99999)", x.untilWide(99999), 99999 * 16 - 160 + 1);
        for (int w : new int[] {-1, 100000, Integer.MIN_VALUE, Integer.MAX_VALUE}) due.is("untilWide(" + w + ")", x.untilWide(w), OUTSIDE);
    }

    private static void book() {
        BoardClock x = new BoardClock();
        due.is("tear() of nothing", x.tear(), 0);
        due.is("write(0)", x.write(0), 1);
        due.is("none wrong", x.told(16), -1);
        due.is("write(1)", x.write(1), 2);
        due.is("the second is wrong", x.told(16), 1);
        x.tick(1);
        due.is("now the first", x.told(16), 0);
        x.undo(1);
        due.is("the book stays when undone", x.told(15), 2);
        due.is("write(min)", x.write(Integer.MIN_VALUE), 3);
        for (int i = 4; i <= 20; i++) due.is("write " + i, x.write(Integer.MAX_VALUE), i);
        due.is("a twenty-first", x.write(0), FULL);
        due.is("entries", x.told(15), 20);
        due.is("wrong", x.told(16), 1);
        x.keep(0);
        due.is("tear()", x.tear(), 20);
        due.is("no entries", x.told(15), 0);
        due.is("none wrong", x.told(16), -1);
        x.goBack(0);
        due.is("the book is not in an image", x.told(15), 0);
        for (int i = 1; i <= 20; i++) x.write(0);
        due.is("all right", x.told(16), -1);
        x.tear();
        x.write(5);
        x.tear();
        due.is("what was torn is not wrong", x.told(16), -1);
    }

    private static void seed() {
        BoardClock x = new BoardClock();
        due.is("seed(max)", x.seed(Integer.MAX_VALUE), 0);
        due.is("seed(-1)", x.seed(-1), OUTSIDE);
        due.is("seed(min)", x.seed(Integer.MIN_VALUE), OUTSIDE);
        due.is("seed(0)", x.seed(0), Integer.MAX_VALUE);
        due.is("not a deed", x.told(17), 0);
        BoardClock y = new BoardClock();
        x.seed(99);
        y.seed(99);
        x.drift(20);
        y.drift(10);
        y.drift(10);
        due.alike("the same draws", Due.picture(x), Due.picture(y));
    }

    private static void images() {
        BoardClock x = busy();
        for (int i : new int[] {-1, 2, Integer.MIN_VALUE, Integer.MAX_VALUE}) {
            due.is("keep(" + i + ")", x.keep(i), UNKNOWN);
            due.is("goBack(" + i + ")", x.goBack(i), UNKNOWN);
        }
        due.is("goBack(0), not kept", x.goBack(0), NOT);
        due.is("what can be undone stays", x.told(17), 7);
        x.seed(5);
        due.is("keep(0)", x.keep(0), 1);
        due.is("nothing can be undone", x.told(17), 0);
        due.is("undo(1)", x.undo(1), NOT);
        due.is("goBack(1), not kept", x.goBack(1), NOT);
        String kept = Due.picture(x);
        x.drift(20);
        x.drop(1);
        x.crystal(1, 1, 1);
        x.bound(0, 9);
        x.power(false);
        due.is("keep(1)", x.keep(1), 1);
        String later = Due.picture(x);
        x.tick(100);
        due.is("goBack(0)", x.goBack(0), 1);
        due.alike("image 0", Due.picture(x), kept);
        due.is("with its seed", x.seed(6), 5);
        due.is("undo(1)", x.undo(1), NOT);
        x.tick(3);
        due.is("goBack(1)", x.goBack(1), 1);
        due.alike("image 1", Due.picture(x), later);
        x.tick(3);
        x.hear(5, 5);
        due.is("undo(2)", x.undo(2), 0);
        due.alike("undone to the image", Due.picture(x), later);
        due.is("goBack(0) again", x.goBack(0), 1);
        due.alike("image 0 is not used up", Due.picture(x), kept);
        x.tick(1);
        due.is("keep(0) anew", x.keep(0), 1);
        kept = Due.picture(x);
        x.tick(1);
        x.goBack(0);
        due.alike("the newer image", Due.picture(x), kept);
    }

    /** What was learned of, since the latest one heard, is in an image too. */
    private static void imagesKeepTheLesson() {
        BoardClock x = new BoardClock();
        x.tick(4);
        x.keep(0);
        x.warm(0);
        x.tick(1);
        x.hear(0, 0);
        x.goBack(0);
        x.hear(-10, 0);
        due.is("learned from four ticks", x.span(4, 0), 10000 + 10 * 16 / 8);
        x.goBack(0);
        x.power(false);
        x.tick(1);
        x.undo(2);
        x.hear(-10, 0);
        due.is("learned as ahead of what was undone", x.span(4, 0), 10000 + 10 * 16 / 8);
        x.warm(-20);
        x.tick(1);
        x.keep(1);
        x.goBack(0);
        x.hear(-10, 0);
        due.is("learned of the span of image 0", x.span(4, 0), 10020);
        due.is("not of that of image 1", x.span(0, 0), 10000);
        x.goBack(1);
        long aim = x.time(2) - x.time(0);
        x.hear(0, 0);
        due.is("learned of the span that is in the image", x.span(0, 0), 10000 + aim * 16 / 2);
        due.is("not of another", x.span(4, 0), 10020);
    }

    public static void main(String[] args) {
        evenly();
        afterAndRings();
        untilWide();
        book();
        seed();
        images();
        imagesKeepTheLesson();
        due.end();
    }
}
