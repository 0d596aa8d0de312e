/** The edges and refusals that promises 1 to 26 name; one method for each promise, and one for each refusal of it that stands apart. */
public final class EdgesOfCallsTest {
    private static final Due due = new Due("EdgesOfCallsTest");
    private static final int UNKNOWN = BoardClock.UNKNOWN, OUTSIDE = BoardClock.OUTSIDE, NOT = BoardClock.NOT, FULL = BoardClock.FULL;
    private static final int LEAST = Integer.MIN_VALUE, MOST = Integer.MAX_VALUE;

    private static void newObject() {
        due.sentence("Promise 1: As told at first.");
        BoardClock x = new BoardClock();
        int[] first = {45, 4, 10000, 0, 1, 0, 20, 160, 1, 0, 0, 1, 0, 0, 0, 0, -1, 0};
        for (int what = 0; what <= 17; what++) due.is("told(" + what + ")", x.told(what), first[what]);
        due.is("goBack(0)", x.goBack(0), NOT);
        due.is("goBack(1)", x.goBack(1), NOT);
        due.is("undo(1)", x.undo(1), NOT);
        due.is("drop(0)", x.drop(0), UNKNOWN);
        due.is("tear()", x.tear(), 0);
        due.is("seed(0)", x.seed(0), 0);
    }

    private static void told() {
        due.sentence("Promise 2: 0 WARMTH and 20 .. 17 how many can be undone. OUTSIDE.");
        BoardClock x = new BoardClock();
        due.is("told(-1)", x.told(-1), OUTSIDE);
        due.is("told(0)", x.told(0), 45);
        due.is("told(17)", x.told(17), 0);
        due.is("told(18)", x.told(18), OUTSIDE);
        due.is("told(least)", x.told(LEAST), OUTSIDE);
        due.is("told(most)", x.told(MOST), OUTSIDE);
    }

    private static void toldTicks() {
        due.sentence("9 TICKS since the latest one HEARD");
        BoardClock x = new BoardClock();
        due.is("at the beginning", x.told(9), 0);
        x.tick(2000);
        x.power(false);
        x.tick(2000);
        due.is("from the beginning, with power or not", x.told(9), 4000);
        x.hear(0, 0);
        due.is("one was heard", x.told(9), 0);
        x.tick(1);
        due.is("since then", x.told(9), 1);
        x.hear(9999, 0);
        due.is("one by which it was broken", x.told(9), 0);
        x.undo(1);
        due.is("undone", x.told(9), 1);
    }

    private static void toldRingsOfAll() {
        due.sentence("13 RINGS of all together");
        BoardClock x = new BoardClock();
        due.is("no alarm", x.told(13), 0);
        for (int i = 0; i < 6; i++) x.alarm(-1, -1, -1);
        x.tick(2000);
        due.is("six alarms", x.told(13), 12000);
        x.drop(5);
        due.is("five alarms", x.told(13), 10000);
    }

    private static void time() {
        due.sentence("Promise 3: what = 0 TRUE TIME, 1 BOARD TIME, 2 AIM; -1: none such.");
        BoardClock x = new BoardClock();
        x.crystal(25, 0, 2);
        x.tick(1);
        x.hear(9, 0);
        due.is("time(-1)", x.time(-1), -1);
        due.is("time(0)", x.time(0), 60000);
        due.is("time(1)", x.time(1), 60002);
        due.is("time(2)", x.time(2), 60009);
        due.is("time(3)", x.time(3), -1);
        due.is("time(least)", x.time(LEAST), -1);
        due.is("time(most)", x.time(MOST), -1);
    }

    private static void calendar() {
        due.sentence("Promise 4: what = 0 the MINUTE, 1 minute, 2 hour, 3 weekday. OUTSIDE.");
        BoardClock x = new BoardClock();
        x.tick(1502);
        due.is("calendar(-1)", x.calendar(-1), OUTSIDE);
        due.is("calendar(0)", x.calendar(0), 1502);
        due.is("calendar(1)", x.calendar(1), 2);
        due.is("calendar(2)", x.calendar(2), 1);
        due.is("calendar(3)", x.calendar(3), 1);
        due.is("calendar(4)", x.calendar(4), OUTSIDE);
        due.is("calendar(least)", x.calendar(LEAST), OUTSIDE);
        due.is("calendar(most)", x.calendar(MOST), OUTSIDE);
    }

    private static void span() {
        due.sentence("Promise 5: what = 0 LEARNED and 10000, 1 FIT and 100000. UNKNOWN, OUTSIDE.");
        BoardClock x = new BoardClock();
        due.is("span(-1, 0)", x.span(-1, 0), UNKNOWN);
        due.is("span(9, 1)", x.span(9, 1), UNKNOWN);
        due.is("span(least, 0)", x.span(LEAST, 0), UNKNOWN);
        due.is("span(most, 0)", x.span(MOST, 0), UNKNOWN);
        due.is("span(0, -1)", x.span(0, -1), OUTSIDE);
        due.is("span(0, 2)", x.span(0, 2), OUTSIDE);
        due.is("span(8, least)", x.span(8, LEAST), OUTSIDE);
        due.is("span(8, most)", x.span(8, MOST), OUTSIDE);
        due.is("span(0, 0)", x.span(0, 0), 10000);
        due.is("span(8, 1)", x.span(8, 1), 100768);
    }

    private static void alarmAt() {
        due.sentence("Promise 6: what = 0 minute, 1 hour, 2 weekday (-1: any), 3 RINGS, 4 NEXT. UNKNOWN, OUTSIDE.");
        BoardClock x = new BoardClock();
        due.is("alarmAt(0, 0) of none", x.alarmAt(0, 0), UNKNOWN);
        x.alarm(59, 23, 6);
        x.alarm(-1, -1, -1);
        x.tick(4);
        due.is("alarmAt(-1, 0)", x.alarmAt(-1, 0), UNKNOWN);
        due.is("alarmAt(2, 0)", x.alarmAt(2, 0), UNKNOWN);
        due.is("alarmAt(least, 0)", x.alarmAt(LEAST, 0), UNKNOWN);
        due.is("alarmAt(most, 0)", x.alarmAt(MOST, 0), UNKNOWN);
        due.is("alarmAt(0, -1)", x.alarmAt(0, -1), OUTSIDE);
        due.is("alarmAt(1, 5)", x.alarmAt(1, 5), OUTSIDE);
        due.is("alarmAt(1, least)", x.alarmAt(1, LEAST), OUTSIDE);
        due.is("alarmAt(1, most)", x.alarmAt(1, MOST), OUTSIDE);
        int[] told = {59, 23, 6, 0, 10079}, any = {-1, -1, -1, 4, 5};
        for (int what = 0; what <= 4; what++) {
            due.is("alarmAt(0, " + what + ")", x.alarmAt(0, what), told[what]);
            due.is("alarmAt(1, " + what + ")", x.alarmAt(1, what), any[what]);
        }
    }

    private static void tick() {
        due.sentence("Promise 7: n TICKS (1 .. 2000; one deed): ALARMS that RANG (a SET). OUTSIDE.");
        BoardClock x = new BoardClock();
        x.alarm(-1, -1, -1);
        due.is("tick(0)", x.tick(0), OUTSIDE);
        due.is("tick(-1)", x.tick(-1), OUTSIDE);
        due.is("tick(2001)", x.tick(2001), OUTSIDE);
        due.is("tick(least)", x.tick(LEAST), OUTSIDE);
        due.is("tick(most)", x.tick(MOST), OUTSIDE);
        due.is("no tick", x.time(0), 0);
        due.is("tick(1)", x.tick(1), 1);
        due.is("tick(2000)", x.tick(2000), 1);
        due.is("each is one deed", x.told(17), 3);
        due.is("2001 ticks", x.time(0), 2001L * 60000);
        x.undo(1);
        due.is("2000 undone at once", x.time(0), 60000);
        due.is("and their rings", x.told(13), 1);
    }

    private static void warm() {
        due.sentence("Promise 8: WARMTH becomes T: what it was, and 20. OUTSIDE.");
        BoardClock x = new BoardClock();
        due.is("warm(-21)", x.warm(-21), OUTSIDE);
        due.is("warm(70)", x.warm(70), OUTSIDE);
        due.is("warm(least)", x.warm(LEAST), OUTSIDE);
        due.is("warm(most)", x.warm(MOST), OUTSIDE);
        due.is("warm(-20)", x.warm(-20), 45);
        due.is("warm(69)", x.warm(69), 0);
        due.is("warm(69) again", x.warm(69), 89);
    }

    private static void crystal() {
        due.sentence("Promise 9: THE CRYSTAL has TOP, CURVE, BASE: OFF then, and 10000. OUTSIDE.");
        BoardClock x = new BoardClock();
        x.warm(-20);
        int[][] wrong = {{-1, 3, 0}, {41, 3, 0}, {25, -1, 0}, {25, 21, 0}, {25, 3, -10}, {25, 3, 10}, {LEAST, 3, 0}, {MOST, 3, 0}, {25, LEAST, 0}, {25, MOST, 0}, {25, 3, LEAST}, {25, 3, MOST}};
        for (int[] w : wrong) {
            due.is("crystal(" + w[0] + ", " + w[1] + ", " + w[2] + ")", x.crystal(w[0], w[1], w[2]), OUTSIDE);
            due.is("it stays", x.told(2), 9940);
        }
        due.is("crystal(0, 0, -9)", x.crystal(0, 0, -9), 9991);
        due.is("crystal(40, 20, 9)", x.crystal(40, 20, 9), 10009 - 720);
    }

    private static void bound() {
        due.sentence("Promise 10: what = 0 STEP, 1 D becomes v: what it was. OUTSIDE.");
        BoardClock x = new BoardClock();
        int[][] wrong = {{0, 0}, {0, 201}, {0, -1}, {0, LEAST}, {0, MOST}, {1, -1}, {1, 1000}, {1, LEAST}, {1, MOST}, {-1, 1}, {2, 1}, {LEAST, 1}, {MOST, 1}};
        for (int[] w : wrong) due.is("bound(" + w[0] + ", " + w[1] + ")", x.bound(w[0], w[1]), OUTSIDE);
        due.is("bound(0, 1)", x.bound(0, 1), 20);
        due.is("bound(0, 200)", x.bound(0, 200), 1);
        due.is("bound(0, 20)", x.bound(0, 20), 200);
        due.is("bound(1, 0)", x.bound(1, 0), 160);
        due.is("bound(1, 999)", x.bound(1, 999), 0);
        due.is("bound(1, 160)", x.bound(1, 160), 999);
    }

    private static void power() {
        due.sentence("Promise 11: Power is there, or not: 1 it was, 0 not.");
        BoardClock x = new BoardClock();
        due.is("at first it was", x.power(true), 1);
        due.is("power(false)", x.power(false), 1);
        due.is("power(false) again", x.power(false), 0);
        due.is("power(true)", x.power(true), 0);
        due.is("told(8)", x.told(8), 1);
    }

    private static void hear() {
        due.sentence("Promise 12: A time is HEARD (ERROR -9999 .. 9999, ACC 0 .. 5000): 1 it was BROKEN by it, 0 not. OUTSIDE.");
        BoardClock x = new BoardClock();
        int[][] wrong = {{-10000, 0}, {10000, 0}, {LEAST, 0}, {MOST, 0}, {0, -1}, {0, 5001}, {0, LEAST}, {0, MOST}};
        for (int[] w : wrong) due.is("hear(" + w[0] + ", " + w[1] + ")", x.hear(w[0], w[1]), OUTSIDE);
        due.is("none was heard", x.told(17), 0);
        due.is("hear(-9999, 0)", x.hear(-9999, 0), 1);
        due.is("aim", x.time(2), -9999);
        due.is("hear(9999, 5000)", x.hear(9999, 5000), 1);
        due.is("aim", x.time(2), 9999);
        due.is("hear(9999, 0)", x.hear(9999, 0), 0);
    }

    private static void alarm() {
        due.sentence("Promise 13: An ALARM comes (minute, hour, weekday, or -1): its number. OUTSIDE, FULL (6).");
        BoardClock x = new BoardClock();
        int[][] wrong = {{-2, 0, 0}, {60, 0, 0}, {0, -2, 0}, {0, 24, 0}, {0, 0, -2}, {0, 0, 7}, {LEAST, 0, 0}, {MOST, 0, 0}, {0, LEAST, 0}, {0, MOST, 0}, {0, 0, LEAST}, {0, 0, MOST}};
        for (int[] w : wrong) due.is("alarm(" + w[0] + ", " + w[1] + ", " + w[2] + ")", x.alarm(w[0], w[1], w[2]), OUTSIDE);
        due.is("none came", x.told(12), 0);
        due.is("alarm(-1, -1, -1)", x.alarm(-1, -1, -1), 0);
        due.is("alarm(0, 0, 0)", x.alarm(0, 0, 0), 1);
        due.is("alarm(59, 23, 6)", x.alarm(59, 23, 6), 2);
        due.is("the same again", x.alarm(59, 23, 6), 3);
        due.is("fifth", x.alarm(1, 2, 3), 4);
        due.is("sixth", x.alarm(1, 2, 3), 5);
        due.is("seventh", x.alarm(1, 2, 3), FULL);
        due.is("six came", x.told(17), 6);
    }

    private static void drop() {
        due.sentence("Promise 14: An ALARM goes (later ones have one number less): how many are left. UNKNOWN.");
        BoardClock x = new BoardClock();
        due.is("drop(0) of none", x.drop(0), UNKNOWN);
        for (int i = 0; i < 6; i++) x.alarm(10 + i, i, i);
        for (int a : new int[] {-1, 6, LEAST, MOST}) due.is("drop(" + a + ")", x.drop(a), UNKNOWN);
        x.tick(11);
        due.is("drop(5), the last", x.drop(5), 5);
        due.is("those ahead stay", x.alarmAt(4, 0), 14);
        due.is("drop(5)", x.drop(5), UNKNOWN);
        due.is("drop(0), the first", x.drop(0), 4);
        for (int a = 0; a < 4; a++) for (int what = 0; what <= 2; what++) due.is("alarmAt(" + a + ", " + what + ")", x.alarmAt(a, what), 11 * (what == 0 ? 1 : 0) + a + (what == 0 ? 0 : 1));
        due.is("drop(1), one between", x.drop(1), 3);
        due.is("ahead of it", x.alarmAt(0, 0), 11);
        due.is("behind it", x.alarmAt(1, 0), 13);
        due.is("the last", x.alarmAt(2, 0), 14);
        due.is("behind the last", x.alarmAt(3, 0), UNKNOWN);
        for (int left = 2; left >= 0; left--) due.is("drop(0)", x.drop(0), left);
        due.is("drop(0) of none", x.drop(0), UNKNOWN);
    }

    private static void dropTakesRingsAlong() {
        due.sentence("later ones have one number less");
        BoardClock x = new BoardClock();
        for (int i = 0; i < 6; i++) x.alarm(i < 3 ? -1 : i, -1, -1);
        x.tick(3);
        x.drop(2);
        due.is("the fourth is the third, with its rings", x.alarmAt(2, 3), 1);
        due.is("the fifth is the fourth, with its rings", x.alarmAt(3, 3), 0);
        due.is("it rings by its new number", x.tick(1), 1 + 2 + 8);
    }

    private static void learn() {
        due.sentence("Promise 15: LEARNED of a SPAN becomes v (-9999 .. 9999): what it was, and 10000. UNKNOWN, OUTSIDE.");
        BoardClock x = new BoardClock();
        for (int s : new int[] {-1, 9, LEAST, MOST}) due.is("learn(" + s + ", 0)", x.learn(s, 0), UNKNOWN);
        for (int v : new int[] {-10000, 10000, LEAST, MOST}) due.is("learn(0, " + v + ")", x.learn(0, v), OUTSIDE);
        due.is("nothing was learned", x.told(17), 0);
        for (int s : new int[] {0, 8}) {
            due.is("learn(" + s + ", -9999)", x.learn(s, -9999), 10000);
            due.is("learn(" + s + ", 9999)", x.learn(s, 9999), 1);
            due.is("learn(" + s + ", 0)", x.learn(s, 0), 19999);
        }
    }

    private static void drift() {
        due.sentence("Promise 16: n times BY DRAWS (1 .. 20): RINGS of all together. OUTSIDE.");
        BoardClock x = new BoardClock();
        x.alarm(-1, -1, -1);
        x.alarm(-1, -1, -1);
        x.tick(5);
        x.seed(5);
        for (int n : new int[] {0, -1, 21, LEAST, MOST}) due.is("drift(" + n + ")", x.drift(n), OUTSIDE);
        due.is("no draw", x.seed(5), 5);
        due.is("no deed", x.told(17), 3);
        due.is("drift(1), a tick: those of before too", x.drift(1), 12);
        due.is("one deed", x.told(17), 4);
        due.is("drift(20)", x.drift(20), x.told(13));
        due.is("twenty deeds", x.told(17), 20);
    }

    private static void undo() {
        due.sentence("Promise 17: The n latest (1 .. 20) are undone: how many more can be. OUTSIDE, NOT: not so many.");
        BoardClock x = new BoardClock();
        for (int i = 0; i < 25; i++) x.tick(1);
        for (int n : new int[] {0, -1, 21, LEAST, MOST}) due.is("undo(" + n + ")", x.undo(n), OUTSIDE);
        due.is("nothing undone", x.time(0), 25 * 60000);
        due.is("undo(1)", x.undo(1), 19);
        due.is("24 are left", x.time(0), 24 * 60000);
        due.is("undo(20): 19 there are", x.undo(20), NOT);
        due.is("24 are still left", x.time(0), 24 * 60000);
        due.is("undo(19)", x.undo(19), 0);
        due.is("5 are left", x.time(0), 5 * 60000);
        due.is("undo(1): none there is", x.undo(1), NOT);
        for (int i = 0; i < 20; i++) x.tick(1);
        due.is("undo(20)", x.undo(20), 0);
        due.is("5 are left again", x.time(0), 5 * 60000);
    }

    private static void evenly() {
        due.sentence("Promise 18: EVENLY: 1 BEAT i is swallowed, 0 not. OUTSIDE.");
        BoardClock x = new BoardClock();
        int[][] wrong = {{0, 0, 0}, {1000, 0, 0}, {LEAST, 0, 0}, {MOST, 0, 0}, {9, -1, 0}, {9, 10, 0}, {9, LEAST, 0}, {9, MOST, 0}, {9, 1, -1}, {9, 1, 9}, {9, 1, LEAST}, {9, 1, MOST}};
        for (int[] w : wrong) due.is("evenly(" + w[0] + ", " + w[1] + ", " + w[2] + ")", x.evenly(w[0], w[1], w[2]), OUTSIDE);
        due.is("evenly(1, 0, 0)", x.evenly(1, 0, 0), 0);
        due.is("evenly(1, 1, 0)", x.evenly(1, 1, 0), 1);
        due.is("evenly(999, 998, 0)", x.evenly(999, 998, 0), 0);
        due.is("evenly(999, 998, 998)", x.evenly(999, 998, 998), 1);
    }

    private static void after() {
        due.sentence("Promise 19: BOARD TIME AFTER n TICKS; -1: out of its bounds.");
        BoardClock x = new BoardClock();
        for (int n : new int[] {-1, 2001, LEAST, MOST}) due.is("after(" + n + ")", x.after(n), -1);
        due.is("after(0)", x.after(0), 0);
        due.is("after(2000)", x.after(2000), 120000000);
        for (int i = 0; i < 40; i++) x.tick(2000);
        due.is("after(2000), beyond an int", x.after(2000), 82000L * 60000);
    }

    private static void rings() {
        due.sentence("Promise 20: RINGS that there are more AFTER n TICKS. OUTSIDE.");
        BoardClock x = new BoardClock();
        for (int i = 0; i < 6; i++) x.alarm(-1, -1, -1);
        for (int n : new int[] {-1, 2001, LEAST, MOST}) due.is("rings(" + n + ")", x.rings(n), OUTSIDE);
        due.is("rings(0)", x.rings(0), 0);
        due.is("rings(2000)", x.rings(2000), 12000);
        x.tick(7);
        due.is("those that there were do not count", x.rings(1), 6);
    }

    private static void untilWide() {
        due.sentence("Promise 21: UNTIL WIDE; NONE. OUTSIDE.");
        BoardClock x = new BoardClock();
        for (int w : new int[] {-1, 100000, LEAST, MOST}) due.is("untilWide(" + w + ")", x.untilWide(w), OUTSIDE);
        due.is("untilWide(0)", x.untilWide(0), 1);
        due.is("untilWide(99999)", x.untilWide(99999), 10000);
        x.bound(1, 0);
        due.is("NONE of 0", x.untilWide(0), -1);
        due.is("NONE of 99999", x.untilWide(99999), -1);
        due.is("OUTSIDE all the same", x.untilWide(100000), OUTSIDE);
        x.undo(1);
        for (int i = 0; i < 5; i++) x.tick(2000);
        due.is("1600000 is more than 1599984", x.untilWide(99999), 0);
    }

    private static void write() {
        due.sentence("Promise 22: An entry behind THE BOOK (a MINUTE, any): how many. FULL (20).");
        BoardClock x = new BoardClock();
        due.is("write(least)", x.write(LEAST), 1);
        due.is("write(most)", x.write(MOST), 2);
        due.is("write(-1)", x.write(-1), 3);
        for (int i = 4; i <= 20; i++) due.is("write(0)", x.write(0), i);
        due.is("a twenty-first", x.write(0), FULL);
        due.is("a twenty-first again", x.write(LEAST), FULL);
        due.is("entries", x.told(15), 20);
    }

    private static void tear() {
        due.sentence("Promise 23: No BOOK: how much it had.");
        BoardClock x = new BoardClock();
        due.is("empty", x.tear(), 0);
        x.write(1);
        due.is("one", x.tear(), 1);
        due.is("empty again", x.tear(), 0);
        for (int i = 0; i < 21; i++) x.write(1);
        due.is("full", x.tear(), 20);
        due.is("entries", x.told(15), 0);
        due.is("none is wrong", x.told(16), -1);
    }

    private static void seed() {
        due.sentence("Promise 24: THE SEED becomes v (0 .. 2147483647): what it was. OUTSIDE.");
        BoardClock x = new BoardClock();
        due.is("seed(-1)", x.seed(-1), OUTSIDE);
        due.is("seed(least)", x.seed(LEAST), OUTSIDE);
        due.is("seed(most)", x.seed(MOST), 0);
        due.is("seed(-1) again", x.seed(-1), OUTSIDE);
        due.is("seed(0)", x.seed(0), MOST);
        due.is("seed(1)", x.seed(1), 0);
    }

    private static void keep() {
        due.sentence("Promise 25: IMAGE i becomes what is so (nothing can be undone then): 1. UNKNOWN.");
        BoardClock x = new BoardClock();
        x.tick(1);
        for (int i : new int[] {-1, 2, LEAST, MOST}) due.is("keep(" + i + ")", x.keep(i), UNKNOWN);
        due.is("refused: it can still be undone", x.told(17), 1);
        due.is("keep(0)", x.keep(0), 1);
        due.is("nothing can be undone", x.told(17), 0);
        due.is("undo(1)", x.undo(1), NOT);
        x.tick(1);
        due.is("keep(1)", x.keep(1), 1);
        due.is("nothing can be undone", x.told(17), 0);
        x.tick(1);
        due.is("keep(0) anew", x.keep(0), 1);
        x.goBack(1);
        due.is("image 1", x.time(0), 120000);
        x.goBack(0);
        due.is("image 0 is the newer one", x.time(0), 180000);
    }

    private static void goBack() {
        due.sentence("Promise 26: What is so becomes IMAGE i (nothing can be undone then): 1. UNKNOWN, NOT: it was not kept.");
        BoardClock x = new BoardClock();
        x.tick(1);
        for (int i : new int[] {-1, 2, LEAST, MOST}) due.is("goBack(" + i + ")", x.goBack(i), UNKNOWN);
        due.is("goBack(0)", x.goBack(0), NOT);
        due.is("goBack(1)", x.goBack(1), NOT);
        due.is("refused: it can still be undone", x.told(17), 1);
        x.keep(1);
        x.tick(1);
        due.is("goBack(0), the other was kept", x.goBack(0), NOT);
        due.is("refused: it can still be undone", x.told(17), 1);
        due.is("goBack(1)", x.goBack(1), 1);
        due.is("nothing can be undone", x.told(17), 0);
        due.is("true time", x.time(0), 60000);
        x.keep(0);
        x.tick(1);
        due.is("goBack(0)", x.goBack(0), 1);
        due.is("goBack(0) twice", x.goBack(0), 1);
        due.is("true time", x.time(0), 60000);
    }

    public static void main(String[] args) {
        newObject();
        told();
        toldTicks();
        toldRingsOfAll();
        time();
        calendar();
        span();
        alarmAt();
        tick();
        warm();
        crystal();
        bound();
        power();
        hear();
        alarm();
        drop();
        dropTakesRingsAlong();
        learn();
        drift();
        undo();
        evenly();
        after();
        rings();
        untilWide();
        write();
        tear();
        seed();
        keep();
        goBack();
        due.end();
    }
}
