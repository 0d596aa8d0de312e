/** The edges that the terms of the document name ahead of section 1 and in it; one method for each sentence. */
public final class EdgesOfTimesTest {
    private static final Due due = new Due("EdgesOfTimesTest");
    private static final int UNKNOWN = BoardClock.UNKNOWN, OUTSIDE = BoardClock.OUTSIDE, NOT = BoardClock.NOT, FULL = BoardClock.FULL;

    /** A clock that is right: n ticks old, each of which made the bounds wider by d sixteenths. */
    private static BoardClock right(int n, int d) {
        BoardClock x = new BoardClock();
        x.bound(1, d);
        x.tick(n);
        return x;
    }

    /** Where the middle of the bounds is, told from true time. */
    private static long aimOff(BoardClock x) {
        return x.time(2) - x.time(0);
    }

    // ---- ahead of section 1

    private static void cutsTowardsZero() {
        due.sentence("All numbers are whole; / cuts towards 0, if nothing else is told.");
        BoardClock x = right(3, 160);
        x.hear(1, 0);
        due.is("-1 * 16 / 6 learned", x.span(4, 0), 10000 - 2);
        x = right(3, 160);
        x.hear(-1, 0);
        due.is("1 * 16 / 6 learned", x.span(4, 0), 10000 + 2);
        x = new BoardClock();
        x.warm(30);
        due.is("3 * 25 / 100 off", x.told(2), 10000);
        due.is("below 0 as well, -9 less 75 / 100", x.crystal(25, 3, -9), 10000 - 9);
    }

    private static void numbersFromZeroOn() {
        due.sentence("What has a number has it from 0 on.");
        BoardClock x = new BoardClock();
        due.is("the first alarm", x.alarm(-1, -1, -1), 0);
        due.is("the first alarm is there", x.alarmAt(0, 0), -1);
        due.is("the first span is there", x.span(0, 0), 10000);
        x.write(1);
        due.is("the first entry", x.told(16), 0);
        due.is("the first image", x.keep(0), 1);
    }

    private static void sets() {
        due.sentence("A SET is a whole number, bit k for k.");
        BoardClock x = new BoardClock();
        for (int k = 0; k < 6; k++) x.alarm(k + 1, -1, -1);
        for (int k = 0; k < 6; k++) due.is("alarm " + k + " alone", x.tick(1), 1 << k);
        due.is("none", x.tick(1), 0);
        due.is("all", x.tick(60), 63);
    }

    private static void unknownIsFirst() {
        due.sentence("REFUSALS, of several the first in this order: UNKNOWN, OUTSIDE");
        BoardClock x = new BoardClock();
        due.is("span(-1, -1)", x.span(-1, -1), UNKNOWN);
        due.is("span(9, 2)", x.span(9, 2), UNKNOWN);
        due.is("alarmAt(0, -1)", x.alarmAt(0, -1), UNKNOWN);
        due.is("alarmAt(0, 5)", x.alarmAt(0, 5), UNKNOWN);
        due.is("learn(-1, -10000)", x.learn(-1, -10000), UNKNOWN);
        due.is("learn(9, 10000)", x.learn(9, 10000), UNKNOWN);
    }

    private static void unknownIsAheadOfNot() {
        due.sentence("REFUSALS, of several the first in this order: UNKNOWN, NOT");
        BoardClock x = new BoardClock();
        due.is("goBack(-1), none kept", x.goBack(-1), UNKNOWN);
        due.is("goBack(2), none kept", x.goBack(2), UNKNOWN);
    }

    private static void outsideIsAheadOfNot() {
        due.sentence("REFUSALS, of several the first in this order: OUTSIDE, NOT");
        BoardClock x = new BoardClock();
        due.is("undo(21), nothing to undo", x.undo(21), OUTSIDE);
        due.is("undo(0), nothing to undo", x.undo(0), OUTSIDE);
        due.is("undo(20), nothing to undo", x.undo(20), NOT);
    }

    private static void outsideIsAheadOfFull() {
        due.sentence("REFUSALS, of several the first in this order: OUTSIDE, FULL");
        BoardClock x = new BoardClock();
        for (int i = 0; i < 6; i++) x.alarm(-1, -1, -1);
        due.is("alarm(60, -1, -1)", x.alarm(60, -1, -1), OUTSIDE);
        due.is("alarm(-2, -1, -1)", x.alarm(-2, -1, -1), OUTSIDE);
        due.is("alarm(-1, 24, -1)", x.alarm(-1, 24, -1), OUTSIDE);
        due.is("alarm(-1, -1, 7)", x.alarm(-1, -1, 7), OUTSIDE);
        due.is("alarm(59, 23, 6)", x.alarm(59, 23, 6), FULL);
    }

    private static void refusalsAreFarBelow() {
        due.sentence("They are far below all that is counted: -1000000001 and on");
        due.is("UNKNOWN", BoardClock.UNKNOWN, -1000000001);
        due.is("OUTSIDE", BoardClock.OUTSIDE, -1000000002);
        due.is("NOT", BoardClock.NOT, -1000000003);
        due.is("FULL", BoardClock.FULL, -1000000004);
        due.is("NONE", BoardClock.NONE, -1);
    }

    private static void wholeTimesTellMinusOne() {
        due.sentence("calls that tell a whole time tell -1 instead");
        BoardClock x = right(5, 160);
        due.is("time(-1)", x.time(-1), -1);
        due.is("time(3)", x.time(3), -1);
        due.is("after(-1)", x.after(-1), -1);
        due.is("after(2001)", x.after(2001), -1);
    }

    /** A clock with something of everything. */
    private static BoardClock full() {
        BoardClock x = new BoardClock();
        x.seed(77);
        x.keep(1);
        x.seed(99);
        for (int i = 0; i < 6; i++) x.alarm(i, -1, -1);
        x.hear(321, 10);
        x.learn(4, 55);
        x.tick(9);
        for (int i = 0; i < 20; i++) x.write(i);
        return x;
    }

    private static void refuseAll(BoardClock x) {
        int[] wrong = {x.told(18), x.calendar(4), x.span(9, 0), x.span(0, 2), x.alarmAt(6, 0), x.alarmAt(0, 5), x.tick(0), x.tick(2001), x.warm(-21), x.warm(70),
            x.crystal(41, 3, 0), x.crystal(25, 21, 0), x.crystal(25, 3, 10), x.bound(0, 0), x.bound(0, 201), x.bound(1, -1), x.bound(1, 1000), x.bound(2, 5),
            x.hear(10000, 0), x.hear(0, 5001), x.alarm(60, -1, -1), x.alarm(-1, -1, -1), x.drop(-1), x.drop(6), x.learn(9, 0), x.learn(0, 10000), x.drift(0), x.drift(21),
            x.undo(0), x.undo(10), x.undo(21), x.evenly(0, 0, 0), x.rings(2001), x.untilWide(100000), x.write(0), x.seed(-1), x.keep(2), x.goBack(2), x.goBack(0)};
        for (int i = 0; i < wrong.length; i++) due.holds("refused call " + i + " is refused", wrong[i] <= UNKNOWN && wrong[i] >= FULL);
    }

    private static void refusedChangesNothing() {
        due.sentence("What is refused changes nothing.");
        BoardClock x = full(), y = full();
        refuseAll(x);
        due.alike("what is so", Due.picture(x), Due.picture(y));
        due.is("undo(9)", x.undo(9), 0);
        y.undo(9);
        due.alike("what was so", Due.picture(x), Due.picture(y));
        due.is("the seed", x.seed(0), 99);
        x.goBack(1);
        y.goBack(1);
        due.alike("the image", Due.picture(x), Due.picture(y));
        due.is("the seed of the image", x.seed(0), 77);
        due.is("the book", x.tear(), 20);
    }

    // ---- section 1

    private static void minuteHas60000() {
        due.sentence("TIMES are BEATS; a MINUTE has 60000.");
        BoardClock x = new BoardClock();
        x.crystal(25, 0, -1);
        x.tick(1);
        due.is("board time", x.time(1), 59999);
        due.is("59999 beats: minute", x.calendar(0), 0);
        x.undo(2);
        x.tick(1);
        due.is("60000 beats: minute", x.calendar(0), 1);
        x.crystal(25, 0, -1);
        x.tick(1);
        due.is("119999 beats: minute", x.calendar(0), 1);
    }

    private static void timesAtFirst() {
        due.sentence("TRUE TIME, BOARD TIME: 0 at first.");
        BoardClock x = new BoardClock();
        due.is("time(0)", x.time(0), 0);
        due.is("time(1)", x.time(1), 0);
    }

    private static void warmth() {
        due.sentence("WARMTH T (-20 .. 69; 25 at first)");
        BoardClock x = new BoardClock();
        due.is("at first", x.told(0), 45);
        due.is("too cold", x.warm(-21), OUTSIDE);
        due.is("too warm", x.warm(70), OUTSIDE);
        due.is("it stays", x.told(0), 45);
        x.warm(-20);
        due.is("coldest", x.told(0), 0);
        x.warm(69);
        due.is("warmest", x.told(0), 89);
    }

    private static void spans() {
        due.sentence("in SPANS of ten: SPAN 0 is -20 to -11, and so on (0 .. 8)");
        BoardClock x = new BoardClock();
        for (int s = 0; s <= 8; s++) {
            x.warm(-20 + 10 * s);
            due.is("span of its least warmth " + (-20 + 10 * s), x.told(1), s);
            x.warm(-11 + 10 * s);
            due.is("span of its most warmth " + (-11 + 10 * s), x.told(1), s);
        }
        due.is("below the first", x.span(-1, 0), UNKNOWN);
        due.is("the first", x.span(0, 0), 10000);
        due.is("the last", x.span(8, 0), 10000);
        due.is("behind the last", x.span(9, 0), UNKNOWN);
    }

    private static void top() {
        due.sentence("THE CRYSTAL: TOP (0 .. 40; 25 at first)");
        BoardClock x = new BoardClock();
        x.warm(19);
        due.is("at first: 6 below it", x.told(2), 9999);
        x.warm(31);
        due.is("at first: 6 above it", x.told(2), 9999);
        x.warm(20);
        due.is("too small", x.crystal(-1, 20, 0), OUTSIDE);
        due.is("too large", x.crystal(41, 20, 0), OUTSIDE);
        due.is("least", x.crystal(0, 20, 0), 10000 - 80);
        due.is("most", x.crystal(40, 20, 0), 10000 - 80);
        x.warm(40);
        due.is("at the most there is no curve", x.told(2), 10000);
    }

    private static void curve() {
        due.sentence("CURVE (0 .. 20; 3 at first)");
        BoardClock x = new BoardClock();
        x.warm(35);
        due.is("at first", x.told(2), 10000 - 3);
        due.is("too small", x.crystal(25, -1, 0), OUTSIDE);
        due.is("too large", x.crystal(25, 21, 0), OUTSIDE);
        due.is("least", x.crystal(25, 0, 0), 10000);
        due.is("most", x.crystal(25, 20, 0), 10000 - 20);
    }

    private static void base() {
        due.sentence("BASE (-9 .. 9; 0 at first)");
        BoardClock x = new BoardClock();
        due.is("at first", x.told(2), 10000);
        due.is("too small", x.crystal(25, 3, -10), OUTSIDE);
        due.is("too large", x.crystal(25, 3, 10), OUTSIDE);
        due.is("least", x.crystal(25, 3, -9), 9991);
        due.is("most", x.crystal(25, 3, 9), 10009);
    }

    private static void off() {
        due.sentence("OFF at T: BASE less (CURVE times (T less TOP) squared / 100).");
        BoardClock x = new BoardClock();
        x.warm(34);
        due.is("81 / 100", x.crystal(25, 1, 0), 10000);
        x.warm(35);
        due.is("100 / 100", x.crystal(25, 1, 0), 9999);
        due.is("200 / 100", x.crystal(25, 2, 0), 9998);
        x.warm(69);
        due.is("farthest above: 20 * 69 * 69 / 100", x.crystal(0, 20, -9), 10000 - 9 - 952);
        x.warm(-20);
        due.is("farthest below: 20 * 60 * 60 / 100", x.crystal(40, 20, 9), 10000 + 9 - 720);
    }

    private static void learnedHasBounds() {
        due.sentence("LEARNED of a SPAN: sixteenths of BEATS that the crystal is believed to be OFF there (0 at first; -9999 .. 9999).");
        BoardClock x = new BoardClock();
        for (int s = 0; s <= 8; s++) due.is("at first, of " + s, x.span(s, 0), 10000);
        due.is("too small", x.learn(3, -10000), OUTSIDE);
        due.is("too large", x.learn(3, 10000), OUTSIDE);
        x.learn(3, -9999);
        due.is("least", x.span(3, 0), 1);
        x.learn(3, 9999);
        due.is("most", x.span(3, 0), 19999);
        due.is("not of the one below", x.span(2, 0), 10000);
        due.is("not of the one above", x.span(4, 0), 10000);
    }

    /** Up from 0 to 15 and on to 0 with a beat; and down from 0 to 15 with a beat less. */
    private static void restGoesRound() {
        due.sentence("REST (0 .. 15; 0 at first).");
        BoardClock x = new BoardClock();
        due.is("at first", x.told(3), 0);
        x.learn(4, -1);
        x.tick(15);
        due.is("most", x.told(3), 15);
        due.is("no beat yet", x.time(1) - x.time(0), 0);
        x.tick(1);
        due.is("round to the least", x.told(3), 0);
        due.is("a beat more", x.time(1) - x.time(0), 1);
        BoardClock y = new BoardClock();
        y.learn(4, 1);
        y.tick(1);
        due.is("round to the most", y.told(3), 15);
        due.is("a beat less", y.time(1) - y.time(0), -1);
        y.tick(15);
        due.is("least", y.told(3), 0);
        due.is("no other beat yet", y.time(1) - y.time(0), -1);
        y.tick(1);
        due.is("round again", y.told(3), 15);
        due.is("two beats less", y.time(1) - y.time(0), -2);
    }

    private static void step() {
        due.sentence("STEP S (1 .. 200; 20 at first).");
        BoardClock x = new BoardClock();
        due.is("at first", x.told(6), 20);
        due.is("too small", x.bound(0, 0), OUTSIDE);
        due.is("too large", x.bound(0, 201), OUTSIDE);
        due.is("it stays", x.told(6), 20);
        x.bound(0, 1);
        due.is("least", x.told(6), 1);
        x.bound(0, 200);
        due.is("most", x.told(6), 200);
    }

    private static void aheadAndAimAtFirst() {
        due.sentence("AHEAD (0 at first): what BOARD TIME is yet to go besides. AIM: BOARD TIME and AHEAD.");
        BoardClock x = new BoardClock();
        due.is("ahead at first", x.told(4), 1);
        due.is("aim at first", x.time(2), 0);
        x.hear(7, 0);
        due.is("ahead is not 0", x.told(4), 0);
        due.is("aim", x.time(2), 7);
        due.is("board time", x.time(1), 0);
        x.hear(-7, 0);
        due.is("ahead is below 0", x.told(4), 0);
        due.is("aim below board time", x.time(2), -7);
    }

    private static void widthAtFirst() {
        due.sentence("BOUNDS: half a width W in sixteenths (0 at first)");
        BoardClock x = new BoardClock();
        due.is("at first", x.told(5), 0);
        due.is("true time is within", x.told(11), 1);
    }

    private static void wider() {
        due.sentence("WIDER D (0 .. 999; 160 at first).");
        BoardClock x = new BoardClock();
        due.is("at first", x.told(7), 160);
        due.is("too small", x.bound(1, -1), OUTSIDE);
        due.is("too large", x.bound(1, 1000), OUTSIDE);
        due.is("it stays", x.told(7), 160);
        x.bound(1, 0);
        due.is("least", x.told(7), 0);
        x.bound(1, 999);
        due.is("most", x.told(7), 999);
    }

    private static void trueTimeGoesOn() {
        due.sentence("A TICK: TRUE TIME is 60000 more.");
        BoardClock x = new BoardClock();
        x.warm(-20);
        x.hear(-500, 0);
        x.tick(1);
        due.is("by one", x.time(0), 60000);
        x.power(false);
        x.tick(2000);
        due.is("by 2000 more, without power", x.time(0), 2001L * 60000);
    }

    private static void boardTimeGoesByTheCrystal() {
        due.sentence("BOARD TIME is 60000 and OFF more, and, with power:");
        BoardClock x = new BoardClock();
        x.crystal(25, 3, 9);
        x.learn(4, -160);
        x.hear(15, 0);
        x.power(false);
        x.tick(1);
        due.is("too fast, without power", x.time(1), 60009);
        due.is("ahead stays", x.time(2), 60024);
        due.is("rest stays", x.told(3), 0);
        x.undo(2);
        x.tick(1);
        due.is("too fast, with power, learned and ahead", x.time(1), 60000 + 9 + 10 + 15);
        BoardClock y = new BoardClock();
        y.crystal(0, 20, -9);
        y.warm(69);
        y.power(false);
        y.tick(1);
        due.is("slowest, without power", y.time(1), 60000 - 961);
    }

    private static void restStaysWithoutPower() {
        due.sentence("with power: REST less LEARNED of its SPAN");
        BoardClock x = new BoardClock();
        x.learn(4, -5);
        x.tick(1);
        x.power(false);
        x.tick(10);
        due.is("rest stays without power", x.told(3), 5);
        due.is("no beats without power", x.time(1), 11 * 60000);
        x.power(true);
        x.tick(1);
        due.is("and goes on with it", x.told(3), 10);
        x.warm(30);
        x.learn(5, -1);
        x.tick(1);
        due.is("by the span of the warmth", x.told(3), 11);
        x.warm(29);
        x.tick(1);
        due.is("and by the one below", x.told(3), 0);
    }

    private static void parting() {
        due.sentence("is parted into whole BEATS (rounded down) and a new REST (what is left, 0 .. 15): those BEATS come to it");
        int[][] rows = {{1, -1, 15}, {15, -1, 1}, {16, -1, 0}, {17, -2, 15}, {32, -2, 0}, {9999, -625, 1},
            {-1, 0, 1}, {-15, 0, 15}, {-16, 1, 0}, {-17, 1, 1}, {-32, 2, 0}, {-9999, 624, 15}, {0, 0, 0}};
        for (int[] row : rows) {
            BoardClock x = new BoardClock();
            x.learn(4, row[0]);
            x.tick(1);
            due.is("beats, learned " + row[0], x.time(1) - 60000, row[1]);
            due.is("rest, learned " + row[0], x.told(3), row[2]);
        }
    }

    private static void partingWithARest() {
        due.sentence("REST less LEARNED of its SPAN is parted");
        int[][] rows = {{-1, 1, 0}, {14, 0, 1}, {15, 0, 0}, {16, -1, 15}, {-17, 2, 0}, {-16, 1, 15}};
        for (int[] row : rows) {
            BoardClock x = new BoardClock();
            x.learn(4, -15);
            x.tick(1);
            x.learn(4, row[0]);
            x.tick(1);
            due.is("beats, rest 15, learned " + row[0], x.time(1) - 120000, row[1]);
            due.is("rest, rest 15, learned " + row[0], x.told(3), row[2]);
        }
    }

    private static void stepsToEitherSide() {
        due.sentence("then as much of AHEAD as may be, STEP at most to either side, which is taken from AHEAD");
        for (int side = -1; side <= 1; side += 2) {
            for (int ahead : new int[] {1, 19, 20, 21, 40, 41}) {
                BoardClock x = new BoardClock();
                x.hear(side * ahead, 0);
                x.tick(1);
                due.is("ahead " + side * ahead + ": board time", x.time(1), 60000 + side * Math.min(20, ahead));
                due.is("ahead " + side * ahead + ": it is 0", x.told(4), ahead <= 20 ? 1 : 0);
                due.is("ahead " + side * ahead + ": aim", x.time(2), 60000 + side * ahead);
                x.tick(2);
                due.is("ahead " + side * ahead + ": two more", x.time(1), 180000 + side * ahead);
                due.is("ahead " + side * ahead + ": all is done", x.told(4), 1);
            }
        }
    }

    private static void widerByTick() {
        due.sentence("W is D more, without power (by battery) 4 times D more");
        BoardClock x = new BoardClock();
        x.tick(1);
        due.is("with power", x.told(5), 160);
        x.power(false);
        x.tick(1);
        due.is("without", x.told(5), 160 + 640);
        x.bound(1, 0);
        x.tick(2000);
        due.is("D 0 without power", x.told(5), 800);
        x.power(true);
        x.tick(2000);
        due.is("D 0 with power", x.told(5), 800);
        x.bound(1, 999);
        x.tick(2);
        due.is("D 999", x.told(5), 800 + 1998);
    }

    private static void widthHasAnEnd() {
        due.sentence("(999999999 at most)");
        BoardClock x = new BoardClock();
        x.bound(1, 999);
        x.power(false);
        for (int i = 0; i < 125; i++) x.tick(2000);
        x.tick(250);
        due.is("by 250250 ticks of 3996", x.told(5), 999999000);
        x.power(true);
        x.bound(1, 998);
        x.tick(1);
        due.is("one below", x.told(5), 999999998);
        x.bound(1, 1);
        x.tick(1);
        due.is("just there", x.told(5), 999999999);
        x.tick(1);
        due.is("no more, with power", x.told(5), 999999999);
        x.power(false);
        x.tick(1);
        due.is("no more, without power", x.told(5), 999999999);
        x.undo(4);
        due.is("one below again", x.told(5), 999999998);
        x.power(false);
        x.tick(1);
        due.is("held, 4 more", x.told(5), 999999999);
        x.bound(1, 999);
        x.tick(2000);
        due.is("held, 2000 ticks more", x.told(5), 999999999);
    }

    private static void neverGoesBack() {
        due.sentence("(So BOARD TIME never goes back.)");
        BoardClock x = new BoardClock();
        x.crystal(0, 20, -9);
        x.warm(69);
        x.learn(8, 9999);
        x.bound(0, 200);
        x.hear(-9999, 0);
        due.is("by hearing it stays", x.time(1), 0);
        x.tick(1);
        due.is("the slowest tick: off -961, learned -625, a step of -200", x.time(1), 60000 - 961 - 625 - 200);
        long was = x.time(1);
        x.hear(-9999, 0);
        due.is("by hearing it stays", x.time(1), was);
    }

    // ---- section 1: heard

    private static void accHasBounds() {
        due.sentence("HEARD: a time R, TRUE TIME and an ERROR, that is believed to be exact to ACC (0 .. 5000 BEATS)");
        BoardClock x = right(3, 0);
        due.is("too small", x.hear(0, -1), OUTSIDE);
        due.is("too large", x.hear(0, 5001), OUTSIDE);
        x.hear(9, 0);
        due.is("least: aim", aimOff(x), 9);
        due.is("least: width", x.told(5), 0);
        x.hear(-9999, 5000);
        due.is("most: aim", aimOff(x), -9999);
        due.is("most: width", x.told(5), 80000);
    }

    /** One sixteenth decides: 15 do not reach the beat beside, 16 touch it. */
    private static void brokenOrNot() {
        due.sentence("Both bounds in sixteenths: is there nothing in both, it is BROKEN (by one that was HEARD; counted)");
        for (int side = -1; side <= 1; side += 2) {
            for (int acc : new int[] {0, 1, 4999, 5000}) {
                BoardClock x = right(15, 1);
                due.is("15 sixteenths, beside by 1: broken", x.hear(side * (acc + 1), acc), 1);
                due.is("counted", x.told(10), 1);
                BoardClock y = right(16, 1);
                due.is("16 sixteenths, beside by 1: not broken", y.hear(side * (acc + 1), acc), 0);
                due.is("not counted", y.told(10), 0);
                due.is("one point is in both: aim", aimOff(y), side);
                due.is("one point is in both: width", y.told(5), 0);
            }
        }
    }

    private static void brokenIsCounted() {
        due.sentence("counted");
        BoardClock x = new BoardClock();
        for (int i = 1; i <= 30; i++) {
            due.is("to and fro", x.hear(i % 2 == 0 ? 100 : -100, 0), 1);
            due.is("broken", x.told(10), i);
        }
        due.is("the same again", x.hear(100, 0), 0);
        due.is("is not counted", x.told(10), 30);
    }

    private static void heardCountAlone() {
        due.sentence("and those HEARD count alone");
        BoardClock x = right(10, 160);
        x.hear(-2000, 300);
        due.is("below: aim", aimOff(x), -2000);
        due.is("below: width", x.told(5), 4800);
        x.hear(2000, 7);
        due.is("above: aim", aimOff(x), 2000);
        due.is("above: width", x.told(5), 112);
    }

    private static void whatIsInBoth() {
        due.sentence("else what is in both");
        int[][] rows = {{2, 3, 2, 48}, {-2, 3, -2, 48}, {0, 10, 0, 160}, {1, 100, 0, 160}, {-1, 100, 0, 160},
            {15, 10, 7, 48}, {-15, 10, -8, 48}, {14, 10, 7, 48}, {-14, 10, -7, 48}, {20, 10, 10, 0}, {-20, 10, -10, 0}};
        for (int[] row : rows) {
            BoardClock x = right(1, 160);
            String call = "10 beats wide, hear(" + row[0] + ", " + row[1] + ")";
            due.is(call, x.hear(row[0], row[1]), 0);
            due.is(call + ": aim", aimOff(x), row[2]);
            due.is(call + ": width", x.told(5), row[3]);
        }
    }

    private static void middleIsRoundedDown() {
        due.sentence("AIM becomes the middle of them in BEATS (low and high in sixteenths, together, / 32, rounded down)");
        BoardClock x = new BoardClock();
        x.hear(-10, 3);
        due.is("below 0: aim", x.time(2), -10);
        x.hear(-14, 4);
        due.is("-13 to -10: aim", x.time(2), -12);
        due.is("-13 to -10: width", x.told(5), 32);
        BoardClock y = new BoardClock();
        y.hear(10, 3);
        y.hear(14, 4);
        due.is("10 to 13: aim", y.time(2), 11);
        due.is("10 to 13: width", y.told(5), 32);
        BoardClock z = new BoardClock();
        z.hear(100, 0);
        z.hear(0, 1);
        z.hear(-1, 1);
        due.is("-1 to 0: aim", z.time(2), -1);
        due.is("-1 to 0: width", z.told(5), 16);
    }

    private static void middleOfSixteenths() {
        due.sentence("(low and high in sixteenths, together, / 32, rounded down)");
        int[][] rows = {{31, 16, 0, 31}, {31, 17, 1, 15}, {16, 16, 0, 16}, {31, -16, -1, 16}, {17, -16, -1, 16}, {1, -5000, -1, 16}};
        for (int[] row : rows) {
            BoardClock x = right(row[0], 1);
            x.hear(row[1], Math.abs(row[1]) == 17 ? 16 : Math.abs(row[1]));
            String call = row[0] + " sixteenths wide, heard " + row[1];
            due.is(call + ": aim", aimOff(x), row[2]);
            due.is(call + ": width", x.told(5), row[3]);
        }
    }

    private static void widthIsTheGreaterDistance() {
        due.sentence("W the greater distance from AIM times 16 to either of them");
        BoardClock x = right(1, 160);
        x.hear(15, 10);
        due.is("5 to 10, aim 7: 3 beats to the upper one", x.told(5), 48);
        x = right(1, 160);
        x.hear(-15, 10);
        due.is("-10 to -5, aim -8: 3 beats to the upper one", x.told(5), 48);
        x = right(31, 1);
        x.hear(17, 16);
        due.is("16 to 31 sixteenths, aim 16: 15", x.told(5), 15);
    }

    private static void aheadIsAimLessBoardTime() {
        due.sentence("AHEAD is AIM less BOARD TIME.");
        BoardClock x = new BoardClock();
        x.crystal(25, 0, 9);
        x.tick(10);
        x.hear(90, 0);
        due.is("aim is board time: nothing ahead", x.told(4), 1);
        x.hear(91, 0);
        due.is("1 ahead", x.told(4), 0);
        due.is("done by a tick", x.told(14), 1);
        x.hear(89, 0);
        due.is("1 back", x.told(4), 0);
        x.tick(1);
        due.is("aim stays beside the crystal", x.time(1), 11 * 60000 + 89 + 9);
    }

    // ---- section 1: learning

    private static void learnsOnlyBehindATick() {
        due.sentence("LEARNING, ahead of that: if there was a TICK since the latest one HEARD (or the beginning)");
        BoardClock x = new BoardClock();
        x.hear(100, 0);
        due.is("none since the beginning", x.span(4, 0), 10000);
        x.hear(0, 0);
        x.tick(1);
        x.hear(1, 0);
        due.is("one", x.span(4, 0), 10000 - 8);
        x.hear(100, 0);
        due.is("none since the latest", x.span(4, 0), 10000 - 8);
        BoardClock y = new BoardClock();
        y.tick(1);
        y.hear(-1, 0);
        due.is("one since the beginning", y.span(4, 0), 10000 + 8);
    }

    /** What was learned in four ticks of the third span, the one at place without power (-1: none). */
    private static int learnedWithoutPowerAt(int place) {
        BoardClock x = new BoardClock();
        for (int i = 0; i < 4; i++) {
            x.power(i != place);
            x.tick(1);
        }
        x.hear(-10, 0);
        return x.span(4, 0);
    }

    private static void learnsOnlyWithPower() {
        due.sentence("and all of them with power");
        due.is("all", learnedWithoutPowerAt(-1), 10000 + 20);
        due.is("the first without", learnedWithoutPowerAt(0), 10000);
        due.is("one between without", learnedWithoutPowerAt(2), 10000);
        due.is("the last without", learnedWithoutPowerAt(3), 10000);
        BoardClock x = new BoardClock();
        x.power(false);
        x.tick(4);
        x.hear(-10, 0);
        due.is("all without", x.span(4, 0), 10000);
        x.power(true);
        x.hear(0, 0);
        x.tick(4);
        x.power(false);
        x.hear(-10, 0);
        due.is("no power when it is heard, but at all ticks", x.span(4, 0), 10020);
        x.power(true);
        x.tick(1);
        x.hear((int) aimOff(x) - 1, 0);
        due.is("those without power ahead of the latest one do not count", x.span(4, 0), 10028);
    }

    private static void learnsOnlyInOneSpan() {
        due.sentence("and in one SPAN");
        for (int place = 0; place < 3; place++) {
            BoardClock x = new BoardClock();
            x.crystal(25, 0, 0);
            for (int i = 0; i < 3; i++) {
                x.warm(i == place ? 30 : 29);
                x.tick(1);
            }
            x.hear(-10, 0);
            due.is("another span at " + place + ", in it", x.span(5, 0), 10000);
            due.is("another span at " + place + ", in the others'", x.span(4, 0), 10000);
        }
        BoardClock y = new BoardClock();
        y.crystal(25, 0, 0);
        y.warm(20);
        y.tick(1);
        y.warm(69);
        y.warm(29);
        y.tick(1);
        y.hear(-10, 0);
        due.is("least and most warmth of one span, none between them for a tick", y.span(4, 0), 10000 + 40);
    }

    private static void learnsOfTheSpanOfTheTicks() {
        due.sentence("LEARNED of it is more by");
        for (int s = 0; s <= 8; s++) {
            BoardClock x = new BoardClock();
            x.crystal(25, 0, 0);
            x.warm(-20 + 10 * s);
            x.tick(2);
            x.warm(s == 8 ? -20 : 69);
            x.hear(-10, 0);
            for (int t = 0; t <= 8; t++) due.is("ticks in " + s + ", learned of " + t, x.span(t, 0), t == s ? 10040 : 10000);
        }
    }

    private static void lessonByTicks() {
        due.sentence("(AIM less R) times 16 / (2 times how many TICKS)");
        int[][] rows = {{1, 10, -80}, {1, -10, 80}, {2, 10, -40}, {7, 1, -1}, {7, -1, 1}, {8, 1, -1}, {9, 1, 0}, {9, -1, 0}, {2000, 250, -1}, {2000, 249, 0}, {2000, -249, 0}, {2000, -250, 1}};
        for (int[] row : rows) {
            BoardClock x = new BoardClock();
            x.tick(row[0]);
            x.hear(row[1], 0);
            due.is(row[0] + " ticks, error " + row[1], x.span(4, 0), 10000 + row[2]);
        }
    }

    /** Learned is brought near its end by learn(); the tick then goes by it, so the errors are told from aim. */
    private static void learnedIsHeld() {
        due.sentence("held between -9999 and 9999");
        int[][] rows = {{9990, 1, 9998}, {9991, 1, 9999}, {9992, 1, 9999}, {9999, 1, 9999}, {9999, 500, 9999},
            {-9990, -1, -9998}, {-9991, -1, -9999}, {-9992, -1, -9999}, {-9999, -1, -9999}, {-9999, -500, -9999}, {9999, -1, 9991}, {-9999, 1, -9991}};
        for (int[] row : rows) {
            BoardClock x = new BoardClock();
            x.learn(4, row[0]);
            x.tick(1);
            x.hear((int) aimOff(x) - row[1], 0);
            due.is("learned " + row[0] + ", then " + 8 * row[1] + " more", x.span(4, 0), 10000 + row[2]);
        }
    }

    private static void learnsAheadOfTheBounds() {
        due.sentence("LEARNING, ahead of that");
        BoardClock x = right(2, 160);
        due.is("bounds that hold", x.hear(10, 5000), 0);
        due.is("learned from aim as it was", x.span(4, 0), 10000 - 40);
        BoardClock y = right(2, 0);
        due.is("broken", y.hear(10, 0), 1);
        due.is("learned all the same", y.span(4, 0), 10000 - 40);
        due.is("ticks begin anew", y.told(9), 0);
    }

    public static void main(String[] args) {
        cutsTowardsZero();
        numbersFromZeroOn();
        sets();
        unknownIsFirst();
        unknownIsAheadOfNot();
        outsideIsAheadOfNot();
        outsideIsAheadOfFull();
        refusalsAreFarBelow();
        wholeTimesTellMinusOne();
        refusedChangesNothing();
        minuteHas60000();
        timesAtFirst();
        warmth();
        spans();
        top();
        curve();
        base();
        off();
        learnedHasBounds();
        restGoesRound();
        step();
        aheadAndAimAtFirst();
        widthAtFirst();
        wider();
        trueTimeGoesOn();
        boardTimeGoesByTheCrystal();
        restStaysWithoutPower();
        parting();
        partingWithARest();
        stepsToEitherSide();
        widerByTick();
        widthHasAnEnd();
        neverGoesBack();
        accHasBounds();
        brokenOrNot();
        brokenIsCounted();
        heardCountAlone();
        whatIsInBoth();
        middleIsRoundedDown();
        middleOfSixteenths();
        widthIsTheGreaterDistance();
        aheadIsAimLessBoardTime();
        learnsOnlyBehindATick();
        learnsOnlyWithPower();
        learnsOnlyInOneSpan();
        learnsOfTheSpanOfTheTicks();
        lessonByTicks();
        learnedIsHeld();
        learnsAheadOfTheBounds();
        due.end();
    }
}
