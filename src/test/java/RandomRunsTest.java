import java.util.Random;

/** Promises 1 to 26 together: random runs, every answer held against PlainClock. */
public final class RandomRunsTest {
    private static final Due due = new Due("RandomRunsTest");
    private static final int[] ODD = {Integer.MIN_VALUE, Integer.MAX_VALUE, -2, -1, 0, 1, 2, -21, -20, -12, -11, -10, 9, 10, 19, 20, 21,
        23, 24, 25, 40, 41, 59, 60, 69, 70, 199, 200, 201, 998, 999, 1000, 1999, 2000, 2001, 5000, 5001, -9999, 9999, -10000, 10000, 99999, 100000};
    private static Random random;

    private static int pick(int low, int high) {
        if (random.nextInt(16) == 0) return ODD[random.nextInt(ODD.length)];
        if (random.nextInt(12) == 0) return random.nextBoolean() ? low : high;
        if (random.nextInt(20) == 0) return random.nextBoolean() ? low - 1 : high + 1;
        return low + random.nextInt(high - low + 1);
    }

    private static int ticks() {
        int kind = random.nextInt(10);
        return kind < 5 ? pick(1, 5) : kind < 9 ? pick(1, 90) : pick(1, 2000);
    }

    private static void deed(BoardClock x, PlainClock y, int run) {
        int a, b, c;
        switch (random.nextInt(15)) {
            case 0: case 1: case 2: case 3:
                a = ticks(); due.is(run + " tick(" + a + ")", x.tick(a), y.tick(a)); break;
            case 4: a = pick(-20, 69); due.is(run + " warm(" + a + ")", x.warm(a), y.warm(a)); break;
            case 5: a = pick(0, 40); b = pick(0, 20); c = pick(-9, 9);
                due.is(run + " crystal(" + a + ", " + b + ", " + c + ")", x.crystal(a, b, c), y.crystal(a, b, c)); break;
            case 6: a = pick(0, 1); b = random.nextBoolean() ? pick(1, 200) : pick(0, 999);
                due.is(run + " bound(" + a + ", " + b + ")", x.bound(a, b), y.bound(a, b)); break;
            case 7: boolean is = random.nextInt(3) != 0; due.is(run + " power(" + is + ")", x.power(is), y.power(is)); break;
            case 8: case 9: a = random.nextBoolean() ? pick(-9999, 9999) : pick(-300, 300); b = random.nextBoolean() ? pick(0, 5000) : pick(0, 200);
                due.is(run + " hear(" + a + ", " + b + ")", x.hear(a, b), y.hear(a, b)); break;
            case 10: a = random.nextBoolean() ? -1 : pick(-1, 59); b = random.nextBoolean() ? -1 : pick(-1, 23); c = random.nextBoolean() ? -1 : pick(-1, 6);
                due.is(run + " alarm(" + a + ", " + b + ", " + c + ")", x.alarm(a, b, c), y.alarm(a, b, c)); break;
            case 11: a = pick(0, 8); due.is(run + " drop(" + a + ")", x.drop(a), y.drop(a)); break;
            case 12: a = pick(0, 8); b = pick(-9999, 9999); due.is(run + " learn(" + a + ", " + b + ")", x.learn(a, b), y.learn(a, b)); break;
            case 13: a = pick(1, 20); due.is(run + " drift(" + a + ")", x.drift(a), y.drift(a)); break;
            default: a = pick(1, random.nextBoolean() ? 4 : 20); due.is(run + " undo(" + a + ")", x.undo(a), y.undo(a)); break;
        }
    }

    private static void other(BoardClock x, PlainClock y, int run) {
        int a, b, c;
        switch (random.nextInt(11)) {
            case 0: a = pick(1, 999); b = pick(0, Math.max(1, Math.min(a, 999))); c = pick(0, Math.max(1, Math.min(a, 999)));
                due.is(run + " evenly(" + a + ", " + b + ", " + c + ")", x.evenly(a, b, c), y.evenly(a, b, c)); break;
            case 1: a = pick(0, 2000); due.is(run + " after(" + a + ")", x.after(a), y.after(a)); break;
            case 2: a = pick(0, 2000); due.is(run + " rings(" + a + ")", x.rings(a), y.rings(a)); break;
            case 3: a = random.nextBoolean() ? pick(0, 99999) : pick(0, 500); due.is(run + " untilWide(" + a + ")", x.untilWide(a), y.untilWide(a)); break;
            case 4: case 5: a = random.nextInt(3) == 0 ? pick(-5, 50) : y.calendar(0); due.is(run + " write(" + a + ")", x.write(a), y.write(a)); break;
            case 6: if (random.nextInt(4) == 0) due.is(run + " tear()", x.tear(), y.tear()); break;
            case 7: a = random.nextBoolean() ? pick(0, 2147483646) : pick(0, 100); due.is(run + " seed(" + a + ")", x.seed(a), y.seed(a)); break;
            case 8: a = pick(0, 1); due.is(run + " keep(" + a + ")", x.keep(a), y.keep(a)); break;
            case 9: a = pick(0, 1); due.is(run + " goBack(" + a + ")", x.goBack(a), y.goBack(a)); break;
            default: a = pick(0, 8); b = pick(0, 4);
                due.is(run + " told(" + b + ")", x.told(b), y.told(b));
                due.is(run + " time(" + b + ")", x.time(b), y.time(b));
                due.is(run + " calendar(" + b + ")", x.calendar(b), y.calendar(b));
                due.is(run + " span(" + a + ", " + b + ")", x.span(a, b), y.span(a, b));
                due.is(run + " alarmAt(" + a + ", " + b + ")", x.alarmAt(a, b), y.alarmAt(a, b));
        }
    }

    private static void all(BoardClock x, PlainClock y, int run) {
        for (int i = 0; i <= 18; i++) due.is(run + " told(" + i + ")", x.told(i), y.told(i));
        for (int i = 0; i <= 3; i++) due.is(run + " time(" + i + ")", x.time(i), y.time(i));
        for (int i = 0; i <= 4; i++) due.is(run + " calendar(" + i + ")", x.calendar(i), y.calendar(i));
        for (int s = 0; s <= 9; s++) for (int i = 0; i <= 2; i++) due.is(run + " span(" + s + ", " + i + ")", x.span(s, i), y.span(s, i));
        for (int a = 0; a <= 6; a++) for (int i = 0; i <= 5; i++) due.is(run + " alarmAt(" + a + ", " + i + ")", x.alarmAt(a, i), y.alarmAt(a, i));
    }

    private static void mixedRun(int run) {
        random = new Random(run);
        BoardClock x = new BoardClock();
        PlainClock y = new PlainClock();
        int deeds = 3 + random.nextInt(8);
        for (int i = 0; i < 250; i++) {
            if (random.nextInt(10) < deeds) deed(x, y, run); else other(x, y, run);
            if (random.nextInt(6) == 0) all(x, y, run);
        }
        all(x, y, run);
    }

    /** A clock as fast as may be, so that two minutes come at once, and alarms of all kinds. */
    private static void fastRun(int run) {
        random = new Random(run);
        BoardClock x = new BoardClock();
        PlainClock y = new PlainClock();
        due.is("learn", x.learn(4, -9999), y.learn(4, -9999));
        due.is("bound", x.bound(0, 200), y.bound(0, 200));
        due.is("hear", x.hear(9999, 0), y.hear(9999, 0));
        for (int i = 0; i < 6; i++) {
            int a = random.nextInt(61) - 1, b = random.nextInt(3) == 0 ? random.nextInt(24) : -1, c = random.nextInt(3) == 0 ? random.nextInt(7) : -1;
            due.is("alarm", x.alarm(a, b, c), y.alarm(a, b, c));
        }
        for (int i = 0; i < 300; i++) {
            int n = random.nextInt(4) == 0 ? 100 : 1;
            due.is(run + " rings(" + n + ")", x.rings(n), y.rings(n));
            due.is(run + " tick(" + n + ")", x.tick(n), y.tick(n));
        }
        all(x, y, run);
    }

    /** Weeks pass by large calls, so that rings are counted over whole days and weeks. */
    private static void longRun(int run) {
        random = new Random(run);
        BoardClock x = new BoardClock();
        PlainClock y = new PlainClock();
        for (int i = 0; i < 60; i++) {
            int a = random.nextBoolean() ? -1 : random.nextInt(60), b = random.nextBoolean() ? -1 : random.nextInt(24), c = random.nextBoolean() ? -1 : random.nextInt(7);
            if (i % 10 == 9) due.is(run + " drop(0)", x.drop(0), y.drop(0));
            due.is(run + " alarm(" + a + ", " + b + ", " + c + ")", x.alarm(a, b, c), y.alarm(a, b, c));
            int n = random.nextBoolean() ? 2000 : 1 + random.nextInt(2000);
            due.is(run + " rings(" + n + ")", x.rings(n), y.rings(n));
            due.is(run + " tick(" + n + ")", x.tick(n), y.tick(n));
            due.is(run + " hear(0, 0)", x.hear(0, 0), y.hear(0, 0));
            all(x, y, run);
        }
    }

    public static void main(String[] args) {
        for (int run = 1; run <= 400; run++) mixedRun(run);
        for (int run = 1001; run <= 1010; run++) fastRun(run);
        for (int run = 2001; run <= 2030; run++) longRun(run);
        due.end();
    }
}
