/** The edges that section 2 of the document's terms names, calendar and alarms; one method for each sentence. */
public final class EdgesOfAlarmsTest {
    private static final Due due = new Due("EdgesOfAlarmsTest");
    private static final int UNKNOWN = BoardClock.UNKNOWN, OUTSIDE = BoardClock.OUTSIDE, FULL = BoardClock.FULL;
    private static final int DAY = 1440, WEEK = 7 * DAY;

    /** A clock that is right and stands at the beginning of a minute. */
    private static BoardClock at(int minute) {
        BoardClock x = new BoardClock();
        for (int left = minute; left > 0; left -= 2000) x.tick(Math.min(left, 2000));
        return x;
    }

    private static void calendarIs(BoardClock x, int all, int minute, int hour, int weekday) {
        due.is(all + ": the minute", x.calendar(0), all);
        due.is(all + ": minute", x.calendar(1), minute);
        due.is(all + ": hour", x.calendar(2), hour);
        due.is(all + ": weekday", x.calendar(3), weekday);
    }

    private static void byBoardTime() {
        due.sentence("THE CALENDAR goes by BOARD TIME: its MINUTES from 0 on (BOARD TIME / 60000)");
        BoardClock x = new BoardClock();
        x.crystal(25, 0, -1);
        x.tick(1);
        due.is("true time is in minute 1, board time is not yet", x.calendar(0), 0);
        x.hear(0, 0);
        due.is("aim is in minute 1, board time is not yet", x.calendar(0), 0);
        x.crystal(25, 0, 1);
        x.tick(1);
        due.is("board time 120001", x.calendar(0), 2);
        BoardClock y = new BoardClock();
        y.learn(4, -9999);
        y.tick(97);
        due.is("board time is ahead", y.calendar(0), 98);
    }

    private static void minuteGoesRound() {
        due.sentence("minute 0 .. 59");
        calendarIs(at(59), 59, 59, 0, 0);
        calendarIs(at(60), 60, 0, 1, 0);
        calendarIs(at(61), 61, 1, 1, 0);
    }

    private static void hourGoesRound() {
        due.sentence("hour 0 .. 23");
        calendarIs(at(23 * 60 - 1), 23 * 60 - 1, 59, 22, 0);
        calendarIs(at(23 * 60), 23 * 60, 0, 23, 0);
        calendarIs(at(DAY - 1), DAY - 1, 59, 23, 0);
        calendarIs(at(DAY), DAY, 0, 0, 1);
    }

    private static void weekdayGoesRound() {
        due.sentence("weekday 0 .. 6, as they come");
        for (int day = 0; day <= 6; day++) calendarIs(at(day * DAY + 60), day * DAY + 60, 0, 1, day);
        calendarIs(at(WEEK - 1), WEEK - 1, 59, 23, 6);
        calendarIs(at(WEEK), WEEK, 0, 0, 0);
        calendarIs(at(3 * WEEK + DAY), 3 * WEEK + DAY, 0, 0, 1);
    }

    private static void minuteZero() {
        due.sentence("(MINUTE 0: 0, 0, 0)");
        calendarIs(new BoardClock(), 0, 0, 0, 0);
    }

    private static void sixAtMost() {
        due.sentence("ALARMS (6 at most)");
        BoardClock x = new BoardClock();
        due.is("none at first", x.told(12), 0);
        due.is("none at first: the first", x.alarmAt(0, 0), UNKNOWN);
        for (int a = 0; a < 6; a++) {
            due.is("alarm " + a, x.alarm(a, a, a), a);
            due.is("alarms", x.told(12), a + 1);
            due.is("it is there", x.alarmAt(a, 1), a);
            due.is("none behind it", x.alarmAt(a + 1, 0), UNKNOWN);
        }
        due.is("a seventh", x.alarm(6, 6, 6), FULL);
        due.is("alarms stay", x.told(12), 6);
        x.drop(0);
        due.is("one gone, there is room again", x.alarm(6, 6, 6), 5);
        due.is("and then none", x.alarm(6, 6, 6), FULL);
    }

    private static void minuteOfAnAlarm() {
        due.sentence("a minute or -1 (any)");
        BoardClock x = new BoardClock();
        due.is("below any", x.alarm(-2, 0, 0), OUTSIDE);
        due.is("too large", x.alarm(60, 0, 0), OUTSIDE);
        due.is("any", x.alarm(-1, -1, -1), 0);
        due.is("least", x.alarm(0, -1, -1), 1);
        due.is("most", x.alarm(59, -1, -1), 2);
        due.is("to 58", x.tick(58), 1);
        due.is("59", x.tick(1), 5);
        due.is("60", x.tick(1), 3);
        due.is("61", x.tick(1), 1);
    }

    private static void hourOfAnAlarm() {
        due.sentence("an hour or -1");
        BoardClock x = new BoardClock();
        due.is("below any", x.alarm(0, -2, 0), OUTSIDE);
        due.is("too large", x.alarm(0, 24, 0), OUTSIDE);
        due.is("any", x.alarm(30, -1, -1), 0);
        due.is("least", x.alarm(30, 0, -1), 1);
        due.is("most", x.alarm(30, 23, -1), 2);
        due.is("0:30", x.tick(30), 3);
        due.is("1:30", x.tick(60), 1);
        due.is("to 22:30", x.tick(21 * 60), 1);
        due.is("23:30", x.tick(60), 5);
        due.is("0:30 again", x.tick(60), 3);
    }

    private static void weekdayOfAnAlarm() {
        due.sentence("a weekday or -1");
        BoardClock x = new BoardClock();
        due.is("below any", x.alarm(0, 0, -2), OUTSIDE);
        due.is("too large", x.alarm(0, 0, 7), OUTSIDE);
        due.is("any", x.alarm(0, 12, -1), 0);
        due.is("least", x.alarm(0, 12, 0), 1);
        due.is("most", x.alarm(0, 12, 6), 2);
        due.is("0 at 12", x.tick(12 * 60), 3);
        for (int day = 1; day <= 5; day++) due.is("12 on day " + day, x.tick(DAY), 1);
        due.is("12 on day 6", x.tick(DAY), 5);
        due.is("12 on day 0 again", x.tick(DAY), 3);
    }

    private static void allThatIsToldFits() {
        due.sentence("FITS, if all that is told is so");
        int minute = 2 * DAY + 3 * 60 + 4;
        int[][] rows = {{4, 3, 2, 1}, {-1, -1, -1, 1}, {4, -1, -1, 1}, {-1, 3, -1, 1}, {-1, -1, 2, 1}, {4, 3, -1, 1}, {4, -1, 2, 1}, {-1, 3, 2, 1},
            {5, 3, 2, 0}, {4, 4, 2, 0}, {4, 3, 3, 0}, {5, -1, -1, 0}, {-1, 4, -1, 0}, {-1, -1, 3, 0}, {3, 3, 2, 0}, {4, 2, 2, 0}, {4, 3, 1, 0}};
        for (int[] row : rows) {
            BoardClock x = at(minute - 1);
            x.alarm(row[0], row[1], row[2]);
            due.is("alarm(" + row[0] + ", " + row[1] + ", " + row[2] + ")", x.tick(1), row[3]);
            due.is("its rings", x.alarmAt(0, 3), row[3]);
        }
    }

    private static void behindTheMinuteBefore() {
        due.sentence("RUNG: by a TICK, once for each MINUTE behind that of BOARD TIME before it");
        BoardClock x = at(5);
        x.alarm(5, -1, -1);
        x.alarm(6, -1, -1);
        due.is("5 was before, 6 is behind it", x.tick(1), 2);
        due.is("6 was before", x.tick(1), 0);
        due.is("neither, to 64", x.tick(57), 0);
        due.is("5 an hour later", x.tick(1), 1);
    }

    private static void upToTheMinuteThen() {
        due.sentence("up to that of BOARD TIME then, that FITS");
        BoardClock x = at(5);
        x.alarm(8, -1, -1);
        x.alarm(9, -1, -1);
        due.is("up to 7", x.tick(2), 0);
        due.is("up to 8", x.tick(1), 1);
        x.undo(2);
        due.is("up to 8 by one call", x.tick(3), 1);
        x.undo(1);
        due.is("up to 9 by one call", x.tick(4), 3);
    }

    private static void onceForEachMinute() {
        due.sentence("once for each MINUTE");
        BoardClock x = new BoardClock();
        x.alarm(-1, -1, -1);
        x.alarm(0, -1, -1);
        x.tick(2000);
        due.is("each minute", x.alarmAt(0, 3), 2000);
        due.is("each hour", x.alarmAt(1, 3), 33);
        due.is("together", x.told(13), 2033);
    }

    /** A minute that is not yet over rings none; it is not rung again when true time comes there. */
    private static void slowMinute() {
        due.sentence("each rung once, neither lost nor doubled");
        BoardClock x = new BoardClock();
        x.alarm(-1, -1, -1);
        x.crystal(25, 0, -1);
        due.is("59999: still minute 0", x.tick(1), 0);
        x.crystal(25, 0, 1);
        due.is("120000: minutes 1 and 2 by one tick", x.tick(1), 1);
        due.is("both rung", x.told(13), 2);
        x.crystal(25, 0, -1);
        due.is("179999: still minute 2", x.tick(1), 0);
        due.is("239998: minute 3", x.tick(1), 1);
        due.is("once", x.told(13), 3);
    }

    private static void twoMinutesAtOnce() {
        due.sentence("even if two minutes come at once");
        BoardClock x = at(1);
        x.crystal(25, 0, -1);
        x.tick(1);
        x.alarm(2, -1, -1);
        x.alarm(3, -1, -1);
        x.alarm(1, -1, -1);
        x.alarm(4, -1, -1);
        x.crystal(25, 0, 1);
        due.is("2 and 3 at once", x.tick(1), 3);
        due.is("rings of 2", x.alarmAt(0, 3), 1);
        due.is("rings of 3", x.alarmAt(1, 3), 1);
        due.is("rings of 1", x.alarmAt(2, 3), 0);
        due.is("rings of 4", x.alarmAt(3, 3), 0);
    }

    private static void onlyTicksRing() {
        due.sentence("RUNG: by a TICK");
        BoardClock x = new BoardClock();
        x.alarm(-1, -1, -1);
        x.hear(9999, 0);
        x.warm(0);
        x.power(false);
        due.is("no ring without a tick", x.told(13), 0);
        x.power(true);
        x.warm(25);
        due.is("the first", x.tick(1), 1);
    }

    private static void minuteZeroRingsNone() {
        due.sentence("(MINUTE 0 itself rings none.)");
        BoardClock x = new BoardClock();
        x.alarm(0, 0, 0);
        x.alarm(0, 0, -1);
        x.alarm(0, -1, -1);
        x.crystal(25, 0, -1);
        due.is("still in minute 0", x.tick(1), 0);
        x.crystal(25, 0, 1);
        due.is("minutes 1 and 2", x.tick(1), 0);
        due.is("no rings", x.told(13), 0);
        due.is("none to come from minute 0 either", new BoardClock().rings(0), 0);
        BoardClock y = new BoardClock();
        y.alarm(0, 0, 0);
        for (int i = 0; i < 5; i++) due.is("to " + (i + 1) * 2000, y.tick(2000), 0);
        due.is("to the minute ahead of a week", y.tick(79), 0);
        due.is("a week later", y.tick(1), 1);
    }

    private static void ringsHaveAnEnd() {
        due.sentence("RINGS of each ALARM are counted (99999 at most).");
        BoardClock x = new BoardClock();
        x.alarm(-1, -1, -1);
        for (int i = 0; i < 49; i++) x.tick(2000);
        x.alarm(-1, -1, -1);
        x.tick(1998);
        due.is("one below", x.alarmAt(0, 3), 99998);
        x.tick(1);
        due.is("just there", x.alarmAt(0, 3), 99999);
        due.is("one more rings", x.tick(1), 3);
        due.is("and is not counted", x.alarmAt(0, 3), 99999);
        due.is("that of another is", x.alarmAt(1, 3), 2000);
        due.is("together", x.told(13), 101999);
        x.undo(2);
        due.is("one below again", x.alarmAt(0, 3), 99998);
        x.tick(2000);
        due.is("held, 2000 more", x.alarmAt(0, 3), 99999);
        x.drop(0);
        x.alarm(-1, -1, -1);
        due.is("a new one begins at 0", x.alarmAt(1, 3), 0);
    }

    public static void main(String[] args) {
        byBoardTime();
        minuteGoesRound();
        hourGoesRound();
        weekdayGoesRound();
        minuteZero();
        sixAtMost();
        minuteOfAnAlarm();
        hourOfAnAlarm();
        weekdayOfAnAlarm();
        allThatIsToldFits();
        behindTheMinuteBefore();
        upToTheMinuteThen();
        onceForEachMinute();
        slowMinute();
        twoMinutesAtOnce();
        onlyTicksRing();
        minuteZeroRingsNone();
        ringsHaveAnEnd();
        due.end();
    }
}
