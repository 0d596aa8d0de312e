/** Promises 1 to 6: a new object, told, time, calendar, span, alarmAt. */
public final class WhatIsSoTest {
    private static final Due due = new Due("WhatIsSoTest");
    private static final int UNKNOWN = BoardClock.UNKNOWN, OUTSIDE = BoardClock.OUTSIDE;

    private static void newObject() {
        BoardClock x = new BoardClock();
        int[] first = {45, 4, 10000, 0, 1, 0, 20, 160, 1, 0, 0, 1, 0, 0, 0, 0, -1, 0};
        for (int i = 0; i < first.length; i++) due.is("new: told(" + i + ")", x.told(i), first[i]);
        for (int i = 0; i < 3; i++) due.is("new: time(" + i + ")", x.time(i), 0);
        for (int i = 0; i < 4; i++) due.is("new: calendar(" + i + ")", x.calendar(i), 0);
        for (int s = 0; s < 9; s++) due.is("new: span(" + s + ", 0)", x.span(s, 0), 10000);
        due.is("new: alarmAt(0, 0)", x.alarmAt(0, 0), UNKNOWN);
        due.is("new: seed(1)", x.seed(1), 0);
        due.is("new: goBack(0)", x.goBack(0), BoardClock.NOT);
        due.is("new: goBack(1)", x.goBack(1), BoardClock.NOT);
        due.is("new: tear()", x.tear(), 0);
        due.is("new: crystal as told at first", x.crystal(25, 3, 0), x.told(2));
        due.is("new: bound(0, 1)", x.bound(0, 1), 20);
        due.is("new: bound(1, 1)", x.bound(1, 1), 160);
        due.is("new: power(true)", x.power(true), 1);
    }

    private static void objectsAreApart() {
        BoardClock x = new BoardClock(), y = new BoardClock();
        String before = Due.picture(y);
        x.alarm(-1, -1, -1);
        x.tick(100);
        x.learn(0, 5);
        x.write(3);
        x.keep(0);
        due.alike("another object", Due.picture(y), before);
        due.is("another object: goBack(0)", y.goBack(0), BoardClock.NOT);
    }

    private static void told() {
        BoardClock x = new BoardClock();
        x.warm(-20);
        due.is("told(0)", x.told(0), 0);
        due.is("told(1)", x.told(1), 0);
        due.is("told(2) 3 * 45 * 45 / 100 is cut", x.told(2), 9940);
        x.warm(-11); due.is("told(1) of -11", x.told(1), 0);
        x.warm(-10); due.is("told(1) of -10", x.told(1), 1);
        x.warm(-1); due.is("told(1) of -1", x.told(1), 1);
        x.warm(0); due.is("told(1) of 0", x.told(1), 2);
        x.warm(69); due.is("told(1) of 69", x.told(1), 8);
        due.is("told(0) of 69", x.told(0), 89);
        x.learn(8, 5);
        x.tick(1);
        due.is("told(3) -5 is -1 beat and 11", x.told(3), 11);
        due.is("told(5)", x.told(5), 160);
        due.is("told(9)", x.told(9), 1);
        due.is("told(11) off by 59 beats, bounds of 10", x.told(11), 0);
        x.hear(100, 5);
        due.is("told(4)", x.told(4), 0);
        due.is("told(9) after one heard", x.told(9), 0);
        due.is("told(10)", x.told(10), 1);
        due.is("told(11) true time 100 from aim", x.told(11), 0);
        x.hear(5, 5);
        due.is("told(11) true time just at the bound", x.told(11), 1);
        due.is("told(10) twice", x.told(10), 2);
        due.is("told(17)", x.told(17), 10);
        for (int what : new int[] {-1, 18, 19, Integer.MIN_VALUE, Integer.MAX_VALUE}) due.is("told(" + what + ")", x.told(what), OUTSIDE);
    }

    private static void untilDone() {
        BoardClock x = new BoardClock();
        x.bound(0, 5);
        x.hear(9999, 0);
        due.is("told(14) 9999 by 5", x.told(14), 2000);
        x.hear(-9999, 0);
        due.is("told(14) -9999 by 5", x.told(14), 2000);
        x.power(false);
        due.is("told(14) without power", x.told(14), -1);
        x.power(true);
        x.bound(0, 4);
        due.is("told(14) 9999 by 4", x.told(14), -1);
        x.bound(0, 200);
        due.is("told(14) 9999 by 200", x.told(14), 50);
        x.tick(49);
        due.is("told(14) after 49", x.told(14), 1);
        due.is("told(4) after 49", x.told(4), 0);
        x.tick(1);
        due.is("told(14) after 50", x.told(14), 0);
        due.is("told(4) after 50", x.told(4), 1);
        x.power(false);
        due.is("told(14) without power, nothing ahead", x.told(14), 0);
        BoardClock y = new BoardClock();
        y.bound(0, 1);
        y.hear(2000, 0);
        due.is("told(14) 2000 by 1", y.told(14), 2000);
        y.hear(2001, 0);
        due.is("told(14) 2001 by 1", y.told(14), -1);
    }

    private static void time() {
        BoardClock x = new BoardClock();
        x.warm(-20);
        x.tick(10);
        due.is("time(0)", x.time(0), 600000);
        due.is("time(1)", x.time(1), 599400);
        due.is("time(2)", x.time(2), 599400);
        x.hear(7, 0);
        due.is("time(1) stays", x.time(1), 599400);
        due.is("time(2) heard", x.time(2), 600007);
        for (int what : new int[] {-1, 3, Integer.MIN_VALUE, Integer.MAX_VALUE}) due.is("time(" + what + ")", x.time(what), -1);
        BoardClock y = new BoardClock();
        y.hear(-9999, 0);
        due.is("time(2) may be below 0", y.time(2), -9999);
        for (int i = 0; i < 40; i++) y.tick(2000);
        due.is("time(0) beyond an int", y.time(0), 4800000000L);
        due.is("time(1) beyond an int", y.time(1), 4799990001L);
    }

    private static void calendar() {
        BoardClock x = new BoardClock();
        x.warm(-20);
        x.tick(1);
        due.is("calendar(0) goes by board time, not yet 1", x.calendar(0), 0);
        x.warm(25);
        for (int i = 0; i < 5; i++) x.tick(2000);
        x.tick(81);
        due.is("calendar(0)", x.calendar(0), 10081);
        due.is("calendar(1)", x.calendar(1), 1);
        due.is("calendar(2)", x.calendar(2), 0);
        due.is("calendar(3)", x.calendar(3), 0);
        x.tick(1439);
        due.is("calendar(1)", x.calendar(1), 0);
        due.is("calendar(3)", x.calendar(3), 1);
        x.undo(1);
        x.tick(1436);
        due.is("calendar(1)", x.calendar(1), 57);
        due.is("calendar(2)", x.calendar(2), 23);
        due.is("calendar(3)", x.calendar(3), 0);
        for (int what : new int[] {-1, 4, Integer.MIN_VALUE, Integer.MAX_VALUE}) due.is("calendar(" + what + ")", x.calendar(what), OUTSIDE);
    }

    private static void span() {
        BoardClock x = new BoardClock();
        int[] fit = {100768, 100432, 100192, 100048, 100000, 100048, 100192, 100432, 100768};
        for (int s = 0; s < 9; s++) due.is("span(" + s + ", 1)", x.span(s, 1), fit[s]);
        x.learn(2, -192);
        due.is("span(2, 0) learned", x.span(2, 0), 9808);
        due.is("span(2, 1) learned just so", x.span(2, 1), 100000);
        x.crystal(0, 20, 9);
        due.is("span(8, 1) of another crystal", x.span(8, 1), 100000 - 16 * (9 - 20 * 65 * 65 / 100));
        due.is("span(-1, 0)", x.span(-1, 0), UNKNOWN);
        due.is("span(9, 0)", x.span(9, 0), UNKNOWN);
        due.is("span(9, 2): the first refusal", x.span(9, 2), UNKNOWN);
        due.is("span(8, 2)", x.span(8, 2), OUTSIDE);
        due.is("span(0, -1)", x.span(0, -1), OUTSIDE);
        due.is("span(min, min)", x.span(Integer.MIN_VALUE, Integer.MIN_VALUE), UNKNOWN);
    }

    private static void alarmAt() {
        BoardClock x = new BoardClock();
        x.alarm(30, 7, 2);
        x.alarm(-1, -1, 0);
        due.is("alarmAt(0, 0)", x.alarmAt(0, 0), 30);
        due.is("alarmAt(0, 1)", x.alarmAt(0, 1), 7);
        due.is("alarmAt(0, 2)", x.alarmAt(0, 2), 2);
        due.is("alarmAt(0, 3)", x.alarmAt(0, 3), 0);
        due.is("alarmAt(0, 4)", x.alarmAt(0, 4), 2 * 1440 + 7 * 60 + 30);
        due.is("alarmAt(1, 4)", x.alarmAt(1, 4), 1);
        x.tick(1439);
        due.is("alarmAt(1, 3)", x.alarmAt(1, 3), 1439);
        due.is("alarmAt(1, 4) next week", x.alarmAt(1, 4), 10080);
        x.tick(2000);
        due.is("alarmAt(0, 3) rung", x.alarmAt(0, 3), 1);
        due.is("alarmAt(0, 4) a week on", x.alarmAt(0, 4), 10080 + 2 * 1440 + 7 * 60 + 30);
        due.is("alarmAt(2, 0)", x.alarmAt(2, 0), UNKNOWN);
        due.is("alarmAt(-1, 0)", x.alarmAt(-1, 0), UNKNOWN);
        due.is("alarmAt(2, 9): the first refusal", x.alarmAt(2, 9), UNKNOWN);
        due.is("alarmAt(1, 5)", x.alarmAt(1, 5), OUTSIDE);
        due.is("alarmAt(1, -1)", x.alarmAt(1, -1), OUTSIDE);
    }

    public static void main(String[] args) {
        newObject();
        objectsAreApart();
        told();
        untilDone();
        time();
        calendar();
        span();
        alarmAt();
        due.end();
    }
}
