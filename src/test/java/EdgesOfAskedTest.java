/** The edges that section 3 of the document's terms names; one method for each sentence. */
public final class EdgesOfAskedTest {
    private static final Due due = new Due("EdgesOfAskedTest");
    private static final int UNKNOWN = BoardClock.UNKNOWN, OUTSIDE = BoardClock.OUTSIDE, NOT = BoardClock.NOT, FULL = BoardClock.FULL;
    private static final int DAY = 1440, WEEK = 7 * DAY;

    private static void askedChangesNothing() {
        due.sentence("ASKED, nothing changes by it.");
        BoardClock x = new BoardClock();
        x.alarm(-1, -1, -1);
        x.hear(700, 3);
        x.tick(3);
        String before = Due.picture(x);
        x.evenly(10, 3, 3);
        x.after(2000);
        x.rings(2000);
        x.untilWide(99999);
        due.alike("picture", Due.picture(x), before);
        due.is("the seed", x.seed(0), 0);
    }

    private static void evenlyBeats() {
        due.sentence("EVENLY: of n BEATS (1 .. 999)");
        BoardClock x = new BoardClock();
        due.is("too few", x.evenly(0, 0, 0), OUTSIDE);
        due.is("below 0", x.evenly(-1, 0, 0), OUTSIDE);
        due.is("least", x.evenly(1, 1, 0), 1);
        due.is("most", x.evenly(999, 1, 998), 1);
        due.is("too many", x.evenly(1000, 1, 999), OUTSIDE);
    }

    private static void evenlySwallowed() {
        due.sentence("k (0 to n) are swallowed");
        BoardClock x = new BoardClock();
        due.is("below 0", x.evenly(5, -1, 0), OUTSIDE);
        due.is("more than all", x.evenly(5, 6, 0), OUTSIDE);
        due.is("more than all of 999", x.evenly(999, 1000, 0), OUTSIDE);
        for (int i = 0; i < 5; i++) {
            due.is("none, beat " + i, x.evenly(5, 0, i), 0);
            due.is("all, beat " + i, x.evenly(5, 5, i), 1);
        }
        due.is("all of 999, the first", x.evenly(999, 999, 0), 1);
        due.is("all of 999, the last", x.evenly(999, 999, 998), 1);
    }

    private static void evenlyBeat() {
        due.sentence("BEAT i (0 to n less 1) is");
        BoardClock x = new BoardClock();
        due.is("below the first", x.evenly(5, 2, -1), OUTSIDE);
        due.is("behind the last", x.evenly(5, 2, 5), OUTSIDE);
        due.is("the first", x.evenly(5, 2, 0), 0);
        due.is("the last", x.evenly(5, 2, 4), 1);
        due.is("behind the only one", x.evenly(1, 1, 1), OUTSIDE);
    }

    private static void evenlyIf() {
        due.sentence("if (i and 1) times k / n is more than i times k / n");
        BoardClock x = new BoardClock();
        String[] rows = {"00000", "00001", "00101", "01011", "01111", "11111"};
        for (int k = 0; k <= 5; k++) for (int i = 0; i < 5; i++) due.is("evenly(5, " + k + ", " + i + ")", x.evenly(5, k, i), rows[k].charAt(i) - '0');
        for (int n : new int[] {2, 16, 999}) {
            for (int k = 0; k <= n; k += n < 20 ? 1 : 37) {
                int all = 0;
                for (int i = 0; i < n; i++) all += x.evenly(n, k, i);
                due.is("evenly(" + n + ", " + k + ", ..) in all", all, k);
            }
        }
    }

    private static void afterTicks() {
        due.sentence("AFTER n TICKS (0 .. 2000) as all is now (nothing HEARD): BOARD TIME");
        BoardClock x = new BoardClock();
        x.crystal(25, 0, 3);
        x.learn(4, 7);
        x.hear(4999, 0);
        x.tick(1);
        due.is("too few", x.after(-1), -1);
        due.is("none", x.after(0), 60000 + 3 - 1 + 20);
        due.is("one: rest 9 less 7", x.after(1), 120000 + 6 - 1 + 40);
        due.is("two: rest 2 less 7", x.after(2), 180000 + 9 - 2 + 60);
        due.is("2000: 14007 sixteenths, ahead done", x.after(2000), 2001L * 60003 - 876 + 4999);
        due.is("too many", x.after(2001), -1);
        x.power(false);
        due.is("2000 without power", x.after(2000), 60022 + 2000L * 60003);
        due.is("none without power", x.after(0), 60022);
    }

    private static void ringsAfter() {
        due.sentence("RINGS that there are more (as counted)");
        BoardClock x = new BoardClock();
        due.is("no alarm", x.rings(2000), 0);
        x.alarm(-1, -1, -1);
        x.alarm(0, -1, -1);
        due.is("too few", x.rings(-1), OUTSIDE);
        due.is("none", x.rings(0), 0);
        due.is("one", x.rings(1), 1);
        due.is("to 59", x.rings(59), 59);
        due.is("to 60", x.rings(60), 61);
        due.is("most", x.rings(2000), 2033);
        due.is("too many", x.rings(2001), OUTSIDE);
        x.crystal(25, 0, -1);
        due.is("a slow minute", x.rings(1), 0);
        due.is("slow minutes", x.rings(61), 61);
    }

    private static void ringsAfterAsCounted() {
        due.sentence("(as counted)");
        BoardClock x = new BoardClock();
        x.alarm(-1, -1, -1);
        for (int i = 0; i < 49; i++) x.tick(2000);
        x.tick(1994);
        due.is("5 are left", x.rings(5), 5);
        due.is("6 are not", x.rings(6), 5);
        due.is("2000 are not", x.rings(2000), 5);
        x.alarm(-1, -1, -1);
        due.is("another counts on", x.rings(6), 11);
        x.tick(5);
        due.is("none is left, but of the other", x.rings(7), 7);
        x.drop(1);
        due.is("none is left", x.rings(2000), 0);
    }

    private static void untilDone() {
        due.sentence("UNTIL DONE: how many TICKS until AHEAD is 0 (0, if it is; 2000 at most; NONE: more, or never).");
        for (int side = -1; side <= 1; side += 2) {
            BoardClock x = new BoardClock();
            due.is("it is", x.told(14), 0);
            x.bound(0, 4);
            int[][] rows = {{1, 1}, {4, 1}, {5, 2}, {8, 2}, {9, 3}, {7996, 1999}, {7997, 2000}, {8000, 2000}, {8001, -1}, {9999, -1}};
            for (int[] row : rows) {
                x.hear(side * row[0], 0);
                due.is("ahead " + side * row[0] + " by 4", x.told(14), row[1]);
            }
            x.hear(side, 0);
            x.power(false);
            due.is("never without power", x.told(14), -1);
            x.hear(0, 0);
            due.is("it is, without power", x.told(14), 0);
        }
    }

    private static void untilDoneByLeastAndMostStep() {
        due.sentence("(0, if it is; 2000 at most; NONE: more, or never)");
        BoardClock x = new BoardClock();
        x.bound(0, 1);
        x.hear(1, 0);
        due.is("1 by 1", x.told(14), 1);
        x.hear(2000, 0);
        due.is("2000 by 1", x.told(14), 2000);
        x.hear(2001, 0);
        due.is("2001 by 1", x.told(14), -1);
        x.bound(0, 200);
        due.is("2001 by 200", x.told(14), 11);
        x.hear(200, 0);
        due.is("200 by 200", x.told(14), 1);
    }

    private static void untilDoneIsSo() {
        due.sentence("how many TICKS until AHEAD is 0");
        BoardClock x = new BoardClock();
        x.bound(0, 5);
        x.hear(9999, 0);
        int n = x.told(14);
        due.is("2000 at most", n, 2000);
        x.tick(n - 1);
        due.is("one ahead of it: not yet", x.told(4), 0);
        due.is("one is left", x.told(14), 1);
        x.tick(1);
        due.is("it is", x.told(4), 1);
        due.is("none is left", x.told(14), 0);
    }

    private static void untilWideBounds() {
        due.sentence("UNTIL WIDE w (BEATS 0 .. 99999)");
        BoardClock x = new BoardClock();
        due.is("too small", x.untilWide(-1), OUTSIDE);
        due.is("least", x.untilWide(0), 1);
        due.is("most: 1599984 by 160", x.untilWide(99999), 10000);
        due.is("too large", x.untilWide(100000), OUTSIDE);
    }

    private static void untilWide() {
        due.sentence("how many TICKS until W is more than 16 times w (0, if it is; NONE: it is not, and D is 0)");
        BoardClock x = new BoardClock();
        due.is("160 is not more than 160", x.untilWide(10), 2);
        due.is("160 is more than 144", x.untilWide(9), 1);
        x.tick(1);
        due.is("it is", x.untilWide(9), 0);
        due.is("it is just as wide", x.untilWide(10), 1);
        x.bound(1, 0);
        due.is("it is, D is 0", x.untilWide(9), 0);
        due.is("it is not, D is 0", x.untilWide(10), -1);
        x.power(false);
        due.is("it is not, D is 0, without power", x.untilWide(10), -1);
        x.bound(1, 4);
        due.is("16 by battery is not more", x.untilWide(11), 2);
        due.is("16 by battery is more", x.untilWide(10), 1);
        x.power(true);
        due.is("4 with power", x.untilWide(11), 5);
        x.bound(1, 1);
        due.is("by 1", x.untilWide(99999), 99999 * 16 - 160 + 1);
    }

    private static void next() {
        due.sentence("NEXT of an ALARM: the least MINUTE behind that of BOARD TIME that FITS.");
        int[][] rows = {{-1, -1, -1, 1}, {0, 0, 0, WEEK}, {1, 0, 0, 1}, {0, -1, -1, 60}, {-1, 0, -1, 1}, {0, 0, -1, DAY}, {-1, -1, 0, 1}, {59, 23, 6, WEEK - 1}, {-1, -1, 6, 6 * DAY},
            {-1, 23, -1, 23 * 60}, {59, -1, 6, 6 * DAY + 59}, {0, -1, 0, 60}, {-1, 23, 6, 6 * DAY + 23 * 60}};
        for (int[] row : rows) {
            BoardClock x = new BoardClock();
            x.alarm(row[0], row[1], row[2]);
            due.is("alarm(" + row[0] + ", " + row[1] + ", " + row[2] + ") from minute 0", x.alarmAt(0, 4), row[3]);
        }
    }

    private static void nextOfEachField() {
        due.sentence("the least MINUTE behind that of BOARD TIME that FITS");
        for (int day = 1; day <= 6; day++) {
            BoardClock x = new BoardClock();
            x.alarm(-1, -1, day);
            due.is("weekday " + day, x.alarmAt(0, 4), day * DAY);
            due.is("from the minute before", nextFrom(x, day * DAY - 1), day * DAY);
        }
        for (int hour = 1; hour <= 23; hour++) {
            BoardClock x = new BoardClock();
            x.alarm(-1, hour, -1);
            due.is("hour " + hour, x.alarmAt(0, 4), hour * 60);
            due.is("from its last minute: the next day", nextFrom(x, hour * 60 + 59), DAY + hour * 60);
        }
        for (int minute = 1; minute <= 59; minute++) {
            BoardClock x = new BoardClock();
            x.alarm(minute, -1, -1);
            due.is("minute " + minute, x.alarmAt(0, 4), minute);
            due.is("from there: the next hour", nextFrom(x, minute), 60 + minute);
        }
    }

    private static int nextFrom(BoardClock x, int minute) {
        for (int left = minute; left > 0; left -= 2000) x.tick(Math.min(left, 2000));
        return x.alarmAt(0, 4);
    }

    /** The minute that is now does not count; the one behind the week's last is in the next week. */
    private static void nextIsBehind() {
        due.sentence("the least MINUTE behind that of BOARD TIME");
        BoardClock x = new BoardClock();
        for (int i = 0; i < 5; i++) x.tick(2000);
        x.tick(78);
        x.alarm(59, 23, 6);
        x.alarm(-1, -1, 6);
        x.alarm(0, 0, 0);
        x.alarm(59, -1, -1);
        due.is("one ahead of the week's last", x.alarmAt(0, 4), WEEK - 1);
        due.is("another minute of the day", x.alarmAt(1, 4), WEEK - 1);
        x.tick(1);
        due.is("the week's last is now: a week later", x.alarmAt(0, 4), 2 * WEEK - 1);
        due.is("no other minute of the day", x.alarmAt(1, 4), 13 * DAY);
        due.is("the week's first", x.alarmAt(2, 4), WEEK);
        due.is("an hour later", x.alarmAt(3, 4), WEEK + 59);
        x.tick(1);
        due.is("the week's first is now", x.alarmAt(2, 4), 2 * WEEK);
    }

    private static void holds() {
        due.sentence("HOLDS: TRUE TIME is no farther than W sixteenths from AIM (1, 0).");
        for (int side = -1; side <= 1; side += 2) {
            BoardClock x = new BoardClock();
            x.hear(side, 0);
            due.is("a beat beside, 0 wide", x.told(11), 0);
            x.bound(1, 1);
            x.tick(15);
            due.is("a beat beside, 15 wide", x.told(11), 0);
            x.tick(1);
            due.is("a beat beside, 16 wide", x.told(11), 1);
            BoardClock y = new BoardClock();
            y.hear(side * 5000, 5000);
            due.is("at first aim stays where both are", y.told(11), 1);
            y.hear(side * 9999, 0);
            y.hear(side * -9, 10);
            due.is("9 beside, 10 wide", y.told(11), 1);
            y.hear(side * 100, 10);
            due.is("100 beside, 10 wide", y.told(11), 0);
        }
    }

    private static void fit() {
        due.sentence("FIT of a SPAN: LEARNED less 16 times OFF in the middle of it (its least WARMTH and 5).");
        BoardClock x = new BoardClock();
        x.crystal(0, 20, 0);
        due.is("the first: -15", x.span(0, 1), 100000 + 16 * 45);
        due.is("the third: 5", x.span(2, 1), 100000 + 16 * 5);
        due.is("the last: 65", x.span(8, 1), 100000 + 16 * 845);
        x.learn(8, 9999);
        due.is("most learned", x.span(8, 1), 100000 + 16 * 845 + 9999);
        x.crystal(40, 0, 9);
        x.learn(0, -9999);
        due.is("least learned, base 9", x.span(0, 1), 100000 - 9999 - 144);
        x.learn(0, 144);
        due.is("just so", x.span(0, 1), 100000);
    }

    private static void bookHasAnEnd() {
        due.sentence("THE BOOK (20 at most) tells that BOARD TIME is in a MINUTE");
        BoardClock x = new BoardClock();
        due.is("empty at first", x.told(15), 0);
        for (int i = 1; i <= 20; i++) due.is("entry " + i, x.write(0), i);
        due.is("full", x.write(0), FULL);
        due.is("entries", x.told(15), 20);
        x.tear();
        due.is("room again", x.write(0), 1);
    }

    private static void wrong() {
        due.sentence("WRONG: the first that is otherwise now; NONE.");
        BoardClock x = new BoardClock();
        due.is("an empty book", x.told(16), -1);
        for (int i = 0; i < 19; i++) x.write(0);
        due.is("all are so", x.told(16), -1);
        x.write(1);
        due.is("the last is otherwise", x.told(16), 19);
        x.tick(1);
        due.is("now the first", x.told(16), 0);
        x.tear();
        x.write(1);
        due.is("so again", x.told(16), -1);
        x.write(2);
        x.write(0);
        due.is("the first of two that are otherwise", x.told(16), 1);
        x.tear();
        x.write(Integer.MIN_VALUE);
        due.is("any minute", x.told(16), 0);
    }

    private static long seedBehind(long seed, int draws) {
        for (int i = 0; i < draws; i++) seed = (seed * 1103515245L + 12345L) % (1L << 31);
        return seed;
    }

    private static void seedGoesRound() {
        due.sentence("THE SEED (0 at first: each DRAW it becomes it times 1103515245 and 12345, left over by 2 to the 31");
        BoardClock x = new BoardClock();
        due.is("at first", x.seed(0), 0);
        x.drift(1);
        due.is("from 0", x.seed(Integer.MAX_VALUE), 654583775);
        x.drift(1);
        due.is("from the most", x.seed(Integer.MAX_VALUE - 1), 646343466);
        x.drift(1);
        due.is("from one below", x.seed(1), 638103157);
        x.drift(20);
        due.is("20 times three draws", x.seed(0), seedBehind(1, 60));
    }

    private static BoardClock drawn(int seed) {
        BoardClock x = new BoardClock();
        x.alarm(-1, -1, -1);
        x.tick(2);
        x.seed(seed);
        x.drift(1);
        return x;
    }

    // Each of the seeds below was looked for: its draws of 8, of 90 and of 1001 are at an edge.

    private static void drawnWarmth() {
        due.sentence("a DRAW of 8, of 90, of 1001: on 0 WARMTH becomes the second less 20");
        due.is("draws 0, 0: coldest", drawn(80).told(0), 0);
        due.is("draws 0, 89: warmest", drawn(165).told(0), 89);
        due.is("no tick by it", drawn(165).time(0), 120000);
    }

    private static void drawnTimeHeard() {
        due.sentence("on 1 a time is HEARD, ERROR the third less 500, ACC 500");
        due.is("draws 1, .., 0: error -500, 20 beats of bounds: aim", drawn(1912).time(2), 120000 - 10);
        due.is("draws 1, .., 0: width", drawn(1912).told(5), 160);
        due.is("draws 1, .., 0: learned 500 * 16 / 4", drawn(1912).span(4, 0), 12000);
        due.is("draws 1, .., 1000: error 500: aim", drawn(12573).time(2), 120000 + 10);
        due.is("draws 1, .., 1000: learned -500 * 16 / 4", drawn(12573).span(4, 0), 8000);
        due.is("no tick by it", drawn(12573).time(0), 120000);
        due.is("warmth stays", drawn(12573).told(0), 45);
    }

    private static void drawnTick() {
        due.sentence("on others a TICK");
        due.is("draw 2", drawn(8).time(0), 180000);
        due.is("draw 2: warmth stays", drawn(8).told(0), 45);
        due.is("draw 2: rings", drawn(8).told(13), 3);
        due.is("draw 7", drawn(5).time(0), 180000);
        due.is("draw 7: ticks", drawn(5).told(9), 3);
    }

    private static int deed(BoardClock x, int kind) {
        switch (kind) {
            case 0: return x.tick(2);
            case 1: return x.warm(33);
            case 2: return x.crystal(0, 1, 1);
            case 3: return x.bound(0, 7);
            case 4: return x.bound(1, 7);
            case 5: return x.power(false);
            case 6: return x.hear(55, 5);
            case 7: return x.alarm(3, 2, 1);
            case 8: return x.drop(0);
            case 9: return x.learn(4, 44);
            default: return x.drift(1);
        }
    }

    /** What comes of a clock when it goes on: it tells what no call tells now. */
    private static String future(BoardClock x) {
        x.tick(3);
        x.hear(20, 3);
        x.warm(-3);
        x.tick(3);
        return Due.pictureButUndoable(x);
    }

    private static BoardClock begun() {
        BoardClock x = new BoardClock();
        x.alarm(-1, -1, -1);
        x.alarm(7, 8, 5);
        x.learn(4, -5);
        x.hear(99, 0);
        x.tick(2);
        return x;
    }

    private static void eachDeedIsUndone() {
        due.sentence("UNDONE: the latest deeds (tick(), warm(), crystal(), bound(), power(), hear(), alarm(), drop(), learn(), each of the times BY DRAWS)");
        for (int kind = 0; kind <= 10; kind++) {
            BoardClock x = begun(), y = begun();
            due.holds("deed " + kind + " is not refused", deed(x, kind) >= 0);
            due.is("deed " + kind + " is one", x.told(17), 6);
            due.is("deed " + kind + " undone", x.undo(1), 5);
            due.alike("as ahead of deed " + kind, Due.picture(x), Due.picture(y));
            due.alike("and so it goes on", future(x), future(y));
        }
    }

    /** How the ticks since the latest one heard went is in section 1 too: it is seen by what is learned. */
    private static void lessonsAreUndone() {
        due.sentence("all of sections 1, 2 is as ahead of them");
        BoardClock x = begun(), y = begun();
        x.power(false);
        x.tick(1);
        due.is("a tick without power undone", x.undo(2), 5);
        due.alike("it learns from the others", future(x), future(y));
        x = begun();
        y = begun();
        x.hear(0, 0);
        x.warm(-20);
        x.tick(1);
        due.is("a tick in another span undone", x.undo(3), 5);
        due.alike("it learns of the span of the others", future(x), future(y));
        x = begun();
        y = begun();
        x.keep(1);
        x.hear(0, 0);
        x.warm(-20);
        x.power(false);
        x.tick(1);
        x.goBack(1);
        due.alike("in an image as well", future(x), future(y));
    }

    private static void deedsThatChangeNothingAreUndone() {
        due.sentence("UNDONE: the latest deeds");
        BoardClock x = new BoardClock();
        x.warm(25);
        x.power(true);
        x.bound(0, 20);
        x.learn(4, 0);
        x.crystal(25, 3, 0);
        x.hear(0, 0);
        due.is("deeds by which nothing is otherwise", x.told(17), 6);
        due.is("undo(6)", x.undo(6), 0);
    }

    private static void othersAreNoDeeds() {
        due.sentence("the latest deeds (tick(), warm(), crystal(), bound(), power(), hear(), alarm(), drop(), learn(), each of the times BY DRAWS)");
        BoardClock x = new BoardClock();
        x.tick(5);
        x.write(4);
        x.tear();
        x.seed(4);
        x.evenly(1, 1, 0);
        x.after(1);
        x.rings(1);
        x.untilWide(1);
        x.told(0);
        x.time(0);
        x.calendar(0);
        x.span(0, 0);
        x.alarmAt(0, 0);
        x.tick(0);
        due.is("one deed", x.told(17), 1);
        x.undo(1);
        due.is("the tick", x.time(0), 0);
        due.is("undo is no deed", x.undo(1), NOT);
    }

    private static void twentyAreKept() {
        due.sentence("since the IMAGE (20 at most are kept)");
        BoardClock x = new BoardClock();
        for (int i = 1; i <= 19; i++) x.tick(1);
        due.is("19", x.told(17), 19);
        x.tick(1);
        due.is("20", x.told(17), 20);
        x.tick(1);
        due.is("21", x.told(17), 20);
        due.is("undo(20)", x.undo(20), 0);
        due.is("the first stays", x.time(0), 60000);
        due.is("no more", x.undo(1), NOT);
        for (int i = 1; i <= 45; i++) x.tick(1);
        due.is("undo(1)", x.undo(1), 19);
        due.is("undo(19)", x.undo(19), 0);
        due.is("25 stay", x.time(0), 26 * 60000);
    }

    private static void undoneSinceTheImage() {
        due.sentence("the latest deeds since the IMAGE");
        BoardClock x = new BoardClock();
        x.tick(1);
        x.tick(1);
        x.keep(0);
        due.is("kept: none", x.told(17), 0);
        due.is("kept: undo(1)", x.undo(1), NOT);
        x.tick(1);
        due.is("one since", x.told(17), 1);
        due.is("two since it there are not", x.undo(2), NOT);
        x.goBack(0);
        due.is("gone back: none", x.told(17), 0);
        due.is("gone back: undo(1)", x.undo(1), NOT);
        x.tick(1);
        due.is("undo(1)", x.undo(1), 0);
        due.is("to the image", x.time(0), 120000);
    }

    private static void eachTimeByDrawsIsUndone() {
        due.sentence("each of the times BY DRAWS");
        BoardClock x = new BoardClock(), y = new BoardClock();
        x.seed(5);
        y.seed(5);
        x.drift(20);
        due.is("20 deeds", x.told(17), 20);
        due.is("undo(13)", x.undo(13), 7);
        y.drift(7);
        due.alike("as by 7 of them", Due.picture(x), Due.picture(y));
    }

    private static void seedStays() {
        due.sentence("all of sections 1, 2 is as ahead of them; THE SEED stays");
        BoardClock x = new BoardClock();
        x.seed(5);
        x.drift(3);
        x.undo(3);
        due.is("the seed", x.seed(9), seedBehind(5, 9));
        x.tick(1);
        x.undo(1);
        due.is("the seed set", x.seed(0), 9);
    }

    private static void bookStays() {
        due.sentence("UNDONE: all of sections 1, 2 is as ahead of them");
        BoardClock x = new BoardClock();
        x.tick(1);
        x.write(1);
        x.undo(1);
        due.is("an entry of section 3 stays", x.told(15), 1);
        due.is("and is judged by what is so then", x.told(16), 0);
    }

    private static void images() {
        due.sentence("IMAGES 0, 1 keep all of sections 1, 2, THE SEED.");
        for (int i = 0; i <= 1; i++) {
            for (int kind = 0; kind <= 10; kind++) {
                BoardClock x = begun(), y = begun();
                x.seed(123);
                x.keep(i);
                deed(x, kind);
                x.seed(456);
                due.is("goBack(" + i + ")", x.goBack(i), 1);
                due.is("the seed", x.seed(0), 123);
                due.alike("as ahead of deed " + kind, Due.pictureButUndoable(x), Due.pictureButUndoable(y));
                due.alike("and so it goes on", future(x), future(y));
            }
        }
        BoardClock z = new BoardClock();
        due.is("keep(-1)", z.keep(-1), UNKNOWN);
        due.is("keep(2)", z.keep(2), UNKNOWN);
    }

    private static void imagesAreApart() {
        due.sentence("IMAGES 0, 1");
        BoardClock x = new BoardClock();
        x.keep(0);
        x.tick(1);
        x.keep(1);
        x.tick(1);
        x.goBack(0);
        due.is("image 0", x.time(0), 0);
        x.tick(5);
        x.goBack(1);
        due.is("image 1", x.time(0), 60000);
        x.goBack(0);
        due.is("image 0 is still so", x.time(0), 0);
    }

    public static void main(String[] args) {
        askedChangesNothing();
        evenlyBeats();
        evenlySwallowed();
        evenlyBeat();
        evenlyIf();
        afterTicks();
        ringsAfter();
        ringsAfterAsCounted();
        untilDone();
        untilDoneByLeastAndMostStep();
        untilDoneIsSo();
        untilWideBounds();
        untilWide();
        next();
        nextOfEachField();
        nextIsBehind();
        holds();
        fit();
        bookHasAnEnd();
        wrong();
        seedGoesRound();
        drawnWarmth();
        drawnTimeHeard();
        drawnTick();
        eachDeedIsUndone();
        lessonsAreUndone();
        deedsThatChangeNothingAreUndone();
        othersAreNoDeeds();
        twentyAreKept();
        undoneSinceTheImage();
        eachTimeByDrawsIsUndone();
        seedStays();
        bookStays();
        images();
        imagesAreApart();
        due.end();
    }
}
