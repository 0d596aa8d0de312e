/**
 * A clock on a board that is held true: it runs on a crystal whose error goes by warmth,
 * learns that error from the times it hears, and rings alarms by the calendar.
 * The document of the project says, as numbered promises, what each call answers.
 */
public final class BoardClock {
    public static final int NONE = -1, UNKNOWN = -1000000001, OUTSIDE = -1000000002, NOT = -1000000003, FULL = -1000000004;

    private static final long BEATS_PER_MINUTE = 60000L;
    private static final long MINUTES_PER_HOUR = 60L;
    private static final long MINUTES_PER_DAY = 1440L;
    private static final long HOURS_PER_DAY = 24L;
    private static final long DAYS_PER_WEEK = 7L;
    private static final long SIXTEENTHS = 16L;

    private static final int WARMTH_LEAST = -20;
    private static final int WARMTH_MOST = 69;
    private static final int WARMTH_SHIFT = 20;
    private static final int SPANS = 9;
    private static final int SPAN_SIZE = 10;
    private static final int SPAN_MIDDLE = 5;
    private static final int TOP_MOST = 40;
    private static final int CURVE_MOST = 20;
    private static final int BASE_MOST = 9;
    private static final int LEARNED_MOST = 9999;
    private static final int STEP_LEAST = 1;
    private static final int STEP_MOST = 200;
    private static final int WIDER_MOST = 999;
    private static final int BATTERY_FACTOR = 4;
    private static final long WIDTH_MOST = 999999999L;
    private static final int ERROR_MOST = 9999;
    private static final int ACC_MOST = 5000;

    private static final int ALARMS_MOST = 6;
    private static final int RINGS_MOST = 99999;
    private static final int MINUTE_MOST = 59;
    private static final int HOUR_MOST = 23;
    private static final int WEEKDAY_MOST = 6;
    /** Far above the jumps that any search for the next fitting minute needs (under 180). */
    private static final int JUMPS_MOST = 1000;

    private static final int TICKS_MOST = 2000;
    private static final int EVENLY_MOST = 999;
    private static final int WIDE_MOST = 99999;
    private static final int BOOK_MOST = 20;
    private static final int DRAWS_MOST = 20;
    private static final int UNDO_MOST = 20;
    private static final int IMAGES = 2;

    private static final int SHIFT = 10000;
    private static final int FIT_SHIFT = 100000;

    private static final long DRAW_FACTOR = 1103515245L;
    private static final long DRAW_PLUS = 12345L;
    private static final long DRAW_MASK = 2147483647L;
    private static final int DRAW_CUT = 65536;
    private static final int DRAW_KINDS = 8;
    private static final int DRAW_WARMTHS = 90;
    private static final int DRAW_ERRORS = 1001;
    private static final int DRAW_ERROR_SHIFT = 500;
    private static final int DRAW_ACC = 500;

    private final State now = new State();
    private int theSeed = 0;

    /** The states ahead of the latest deeds, in a ring that goes on at nextPast. */
    private final State[] past = new State[UNDO_MOST];
    private int nextPast = 0;
    private int undoable = 0;

    private final State[] images = new State[IMAGES];
    private final int[] imageSeeds = new int[IMAGES];
    private final boolean[] imageKept = new boolean[IMAGES];

    private final int[] book = new int[BOOK_MOST];
    private int entries = 0;

    public BoardClock() {
        for (int i = 0; i < UNDO_MOST; i++) {
            past[i] = new State();
        }
        for (int i = 0; i < IMAGES; i++) {
            images[i] = new State();
        }
    }

    // ---- what is so

    public int told(int what) {
        switch (what) {
            case 0: return now.warmth + WARMTH_SHIFT;
            case 1: return spanOf(now.warmth);
            case 2: return now.offAt(now.warmth) + SHIFT;
            case 3: return now.rest;
            case 4: return asInt(now.ahead == 0);
            case 5: return now.width;
            case 6: return now.step;
            case 7: return now.wider;
            case 8: return asInt(now.powered);
            case 9: return now.ticks;
            case 10: return now.broken;
            case 11: return asInt(now.isWithinBounds());
            case 12: return now.alarms.count;
            case 13: return now.alarms.totalRings();
            case 14: return now.ticksUntilDone();
            case 15: return entries;
            case 16: return firstWrong();
            case 17: return undoable;
            default: return OUTSIDE;
        }
    }

    public long time(int what) {
        switch (what) {
            case 0: return now.trueTime;
            case 1: return now.boardTime;
            case 2: return now.aim();
            default: return NONE;
        }
    }

    public int calendar(int what) {
        long m = now.minuteNumber();
        switch (what) {
            case 0: return (int) m;
            case 1: return minuteOf(m);
            case 2: return hourOf(m);
            case 3: return weekdayOf(m);
            default: return OUTSIDE;
        }
    }

    public int span(int s, int what) {
        if (!isSpan(s)) {
            return UNKNOWN;
        }
        switch (what) {
            case 0: return now.learned[s] + SHIFT;
            case 1: return now.fitOf(s) + FIT_SHIFT;
            default: return OUTSIDE;
        }
    }

    public int alarmAt(int a, int what) {
        Alarms alarms = now.alarms;
        if (!alarms.has(a)) {
            return UNKNOWN;
        }
        switch (what) {
            case 0: return alarms.minutes[a];
            case 1: return alarms.hours[a];
            case 2: return alarms.weekdays[a];
            case 3: return alarms.rung[a];
            case 4: return (int) alarms.nextFit(a, now.minuteNumber());
            default: return OUTSIDE;
        }
    }

    // ---- deeds

    public int tick(int n) {
        if (!isWithin(n, 1, TICKS_MOST)) {
            return OUTSIDE;
        }
        remember();
        return now.pass(n);
    }

    public int warm(int t) {
        if (!isWithin(t, WARMTH_LEAST, WARMTH_MOST)) {
            return OUTSIDE;
        }
        remember();
        int was = now.warmth;
        now.warmth = t;
        return was + WARMTH_SHIFT;
    }

    public int crystal(int top, int curve, int base) {
        if (!isWithin(top, 0, TOP_MOST) || !isWithin(curve, 0, CURVE_MOST) || !isWithin(base, -BASE_MOST, BASE_MOST)) {
            return OUTSIDE;
        }
        remember();
        now.top = top;
        now.curve = curve;
        now.base = base;
        return now.offAt(now.warmth) + SHIFT;
    }

    public int bound(int what, int v) {
        switch (what) {
            case 0: return changeStep(v);
            case 1: return changeWider(v);
            default: return OUTSIDE;
        }
    }

    public int power(boolean is) {
        remember();
        int was = asInt(now.powered);
        now.powered = is;
        return was;
    }

    public int hear(int error, int acc) {
        if (!isWithin(error, -ERROR_MOST, ERROR_MOST) || !isWithin(acc, 0, ACC_MOST)) {
            return OUTSIDE;
        }
        remember();
        return asInt(now.takeIn(error, acc));
    }

    public int alarm(int minute, int hour, int weekday) {
        if (!isWithin(minute, NONE, MINUTE_MOST) || !isWithin(hour, NONE, HOUR_MOST) || !isWithin(weekday, NONE, WEEKDAY_MOST)) {
            return OUTSIDE;
        }
        if (now.alarms.count >= ALARMS_MOST) {
            return FULL;
        }
        remember();
        return now.alarms.add(minute, hour, weekday);
    }

    public int drop(int a) {
        if (!now.alarms.has(a)) {
            return UNKNOWN;
        }
        remember();
        now.alarms.remove(a);
        return now.alarms.count;
    }

    public int learn(int s, int v) {
        if (!isSpan(s)) {
            return UNKNOWN;
        }
        if (!isWithin(v, -LEARNED_MOST, LEARNED_MOST)) {
            return OUTSIDE;
        }
        remember();
        int was = now.learned[s];
        now.learned[s] = v;
        return was + SHIFT;
    }

    public int drift(int n) {
        if (!isWithin(n, 1, DRAWS_MOST)) {
            return OUTSIDE;
        }
        for (int i = 0; i < n; i++) {
            actByDraws();
        }
        return now.alarms.totalRings();
    }

    public int undo(int n) {
        if (!isWithin(n, 1, UNDO_MOST)) {
            return OUTSIDE;
        }
        if (n > undoable) {
            return NOT;
        }
        nextPast = Math.floorMod(nextPast - n, UNDO_MOST);
        now.copyFrom(past[nextPast]);
        undoable -= n;
        return undoable;
    }

    // ---- asked

    public int evenly(int n, int k, int i) {
        if (!isWithin(n, 1, EVENLY_MOST) || !isWithin(k, 0, n) || !isWithin(i, 0, n - 1)) {
            return OUTSIDE;
        }
        return asInt((i + 1) * k / n > i * k / n);
    }

    public long after(int n) {
        if (!isWithin(n, 0, TICKS_MOST)) {
            return NONE;
        }
        return now.boardTimeAfter(n);
    }

    public int rings(int n) {
        if (!isWithin(n, 0, TICKS_MOST)) {
            return OUTSIDE;
        }
        return now.alarms.ringsToCome(now.minuteNumber(), now.boardTimeAfter(n) / BEATS_PER_MINUTE);
    }

    public int untilWide(int w) {
        if (!isWithin(w, 0, WIDE_MOST)) {
            return OUTSIDE;
        }
        return now.ticksUntilWide(w * SIXTEENTHS);
    }

    // ---- the book

    public int write(int minute) {
        if (entries >= BOOK_MOST) {
            return FULL;
        }
        book[entries] = minute;
        entries++;
        return entries;
    }

    public int tear() {
        int had = entries;
        entries = 0;
        return had;
    }

    // ---- images

    public int seed(int v) {
        if (v < 0) {
            return OUTSIDE;
        }
        int was = theSeed;
        theSeed = v;
        return was;
    }

    public int keep(int i) {
        if (!isWithin(i, 0, IMAGES - 1)) {
            return UNKNOWN;
        }
        images[i].copyFrom(now);
        imageSeeds[i] = theSeed;
        imageKept[i] = true;
        undoable = 0;
        return 1;
    }

    public int goBack(int i) {
        if (!isWithin(i, 0, IMAGES - 1)) {
            return UNKNOWN;
        }
        if (!imageKept[i]) {
            return NOT;
        }
        now.copyFrom(images[i]);
        theSeed = imageSeeds[i];
        undoable = 0;
        return 1;
    }

    // ---- helpers of the calls

    /** Must come ahead of every deed that is not refused, so that undo() can take it back. */
    private void remember() {
        past[nextPast].copyFrom(now);
        nextPast = Math.floorMod(nextPast + 1, UNDO_MOST);
        undoable = Math.min(undoable + 1, UNDO_MOST);
    }

    private int changeStep(int v) {
        if (!isWithin(v, STEP_LEAST, STEP_MOST)) {
            return OUTSIDE;
        }
        remember();
        int was = now.step;
        now.step = v;
        return was;
    }

    private int changeWider(int v) {
        if (!isWithin(v, 0, WIDER_MOST)) {
            return OUTSIDE;
        }
        remember();
        int was = now.wider;
        now.wider = v;
        return was;
    }

    /** All three draws are made whatever the first one says, so that the seed goes on evenly. */
    private void actByDraws() {
        remember();
        int kind = draw(DRAW_KINDS);
        int warmth = draw(DRAW_WARMTHS) - WARMTH_SHIFT;
        int error = draw(DRAW_ERRORS) - DRAW_ERROR_SHIFT;
        if (kind == 0) {
            now.warmth = warmth;
        } else if (kind == 1) {
            now.takeIn(error, DRAW_ACC);
        } else {
            now.pass(1);
        }
    }

    private int draw(int n) {
        theSeed = (int) ((theSeed * DRAW_FACTOR + DRAW_PLUS) & DRAW_MASK);
        return n > 0 ? theSeed / DRAW_CUT % n : 0;
    }

    private int firstWrong() {
        long m = now.minuteNumber();
        for (int i = 0; i < entries && i < BOOK_MOST; i++) {
            if (book[i] != m) {
                return i;
            }
        }
        return NONE;
    }

    private static int asInt(boolean is) {
        return is ? 1 : 0;
    }

    private static boolean isWithin(int v, int least, int most) {
        return v >= least && v <= most;
    }

    private static long heldBetween(long v, long least, long most) {
        return Math.max(least, Math.min(v, most));
    }

    private static boolean isSpan(int s) {
        return s >= 0 && s < SPANS;
    }

    private static int spanOf(int warmth) {
        return (warmth - WARMTH_LEAST) / SPAN_SIZE;
    }

    private static int minuteOf(long m) {
        return (int) (m % MINUTES_PER_HOUR);
    }

    private static int hourOf(long m) {
        return (int) (m / MINUTES_PER_HOUR % HOURS_PER_DAY);
    }

    private static int weekdayOf(long m) {
        return (int) (m / MINUTES_PER_DAY % DAYS_PER_WEEK);
    }

    /** All that sections 1 and 2 of the document name: what undo() and goBack() bring again. */
    private static final class State {
        long trueTime = 0;
        long boardTime = 0;
        long ahead = 0;
        int warmth = 25;
        int top = 25;
        int curve = 3;
        int base = 0;
        int rest = 0;
        int step = 20;
        int width = 0;
        int wider = 160;
        boolean powered = true;
        int broken = 0;
        /** Ticks since the latest time heard; if steady, all were with power and in tickSpan. */
        int ticks = 0;
        int tickSpan = 0;
        boolean steady = false;
        final int[] learned = new int[SPANS];
        final Alarms alarms = new Alarms();

        void copyFrom(State other) {
            trueTime = other.trueTime;
            boardTime = other.boardTime;
            ahead = other.ahead;
            warmth = other.warmth;
            top = other.top;
            curve = other.curve;
            base = other.base;
            rest = other.rest;
            step = other.step;
            width = other.width;
            wider = other.wider;
            powered = other.powered;
            broken = other.broken;
            ticks = other.ticks;
            tickSpan = other.tickSpan;
            steady = other.steady;
            System.arraycopy(other.learned, 0, learned, 0, SPANS);
            alarms.copyFrom(other.alarms);
        }

        long aim() {
            return boardTime + ahead;
        }

        long minuteNumber() {
            return boardTime / BEATS_PER_MINUTE;
        }

        int offAt(int t) {
            int away = t - top;
            return base - curve * away * away / 100;
        }

        int fitOf(int s) {
            int middle = WARMTH_LEAST + s * SPAN_SIZE + SPAN_MIDDLE;
            return learnedOf(s) - (int) SIXTEENTHS * offAt(middle);
        }

        int learnedOf(int s) {
            return isSpan(s) ? learned[s] : 0;
        }

        boolean isWithinBounds() {
            return Math.abs(trueTime - aim()) * SIXTEENTHS <= width;
        }

        // What n ticks do is told at once, not tick by tick: rest and beats of all of them
        // are those of one parting of the sum, and the steps of all end where their sum does.

        /** Sixteenths that n ticks part into whole beats and the rest after them. */
        long sixteenthsAfter(int n) {
            return rest - (long) n * learnedOf(spanOf(warmth));
        }

        long stepsAfter(int n) {
            long most = (long) n * step;
            return heldBetween(ahead, -most, most);
        }

        long boardTimeAfter(int n) {
            long byCrystal = boardTime + n * (BEATS_PER_MINUTE + offAt(warmth));
            if (!powered) {
                return byCrystal;
            }
            return byCrystal + Math.floorDiv(sixteenthsAfter(n), SIXTEENTHS) + stepsAfter(n);
        }

        int widthPerTick() {
            return powered ? wider : BATTERY_FACTOR * wider;
        }

        /** Lets n ticks pass; answers the set of the alarms that rang. */
        int pass(int n) {
            long minuteBefore = minuteNumber();
            noteTicks(n);
            trueTime += n * BEATS_PER_MINUTE;
            boardTime = boardTimeAfter(n);
            if (powered) {
                ahead -= stepsAfter(n);
                rest = (int) Math.floorMod(sixteenthsAfter(n), SIXTEENTHS);
            }
            width = (int) Math.min(width + (long) n * widthPerTick(), WIDTH_MOST);
            return alarms.ring(minuteBefore, minuteNumber());
        }

        void noteTicks(int n) {
            int here = spanOf(warmth);
            if (ticks == 0) {
                tickSpan = here;
                steady = powered;
            } else if (tickSpan != here || !powered) {
                steady = false;
            }
            ticks += n;
        }

        /** Hears a time; answers whether the bounds were broken by it. */
        boolean takeIn(int error, int acc) {
            long heard = trueTime + error;
            learnFrom(heard);
            long heardLow = (heard - acc) * SIXTEENTHS;
            long heardHigh = (heard + acc) * SIXTEENTHS;
            long low = Math.max(heardLow, aim() * SIXTEENTHS - width);
            long high = Math.min(heardHigh, aim() * SIXTEENTHS + width);
            boolean breaks = low > high;
            if (breaks) {
                broken++;
                aimBetween(heardLow, heardHigh);
            } else {
                aimBetween(low, high);
            }
            ticks = 0;
            return breaks;
        }

        void learnFrom(long heard) {
            if (ticks > 0 && steady && isSpan(tickSpan)) {
                long more = (aim() - heard) * SIXTEENTHS / (2L * ticks);
                learned[tickSpan] = (int) heldBetween(learned[tickSpan] + more, -LEARNED_MOST, LEARNED_MOST);
            }
        }

        void aimBetween(long low, long high) {
            long middle = Math.floorDiv(low + high, 2 * SIXTEENTHS);
            width = (int) Math.max(high - middle * SIXTEENTHS, middle * SIXTEENTHS - low);
            ahead = middle - boardTime;
        }

        int ticksUntilDone() {
            if (ahead == 0) {
                return 0;
            }
            if (!powered || step < STEP_LEAST) {
                return NONE;
            }
            long n = (Math.abs(ahead) + step - 1) / step;
            return n <= TICKS_MOST ? (int) n : NONE;
        }

        int ticksUntilWide(long sixteenths) {
            if (width > sixteenths) {
                return 0;
            }
            int perTick = widthPerTick();
            if (perTick <= 0) {
                return NONE;
            }
            return (int) ((sixteenths - width) / perTick) + 1;
        }
    }

    /** The alarms in the order of their numbers; -1 in a field is any. */
    private static final class Alarms {
        int count = 0;
        final int[] minutes = new int[ALARMS_MOST];
        final int[] hours = new int[ALARMS_MOST];
        final int[] weekdays = new int[ALARMS_MOST];
        final int[] rung = new int[ALARMS_MOST];

        void copyFrom(Alarms other) {
            count = other.count;
            System.arraycopy(other.minutes, 0, minutes, 0, ALARMS_MOST);
            System.arraycopy(other.hours, 0, hours, 0, ALARMS_MOST);
            System.arraycopy(other.weekdays, 0, weekdays, 0, ALARMS_MOST);
            System.arraycopy(other.rung, 0, rung, 0, ALARMS_MOST);
        }

        boolean has(int a) {
            return a >= 0 && a < count && a < ALARMS_MOST;
        }

        int add(int minute, int hour, int weekday) {
            if (count < 0 || count >= ALARMS_MOST) {
                return FULL;
            }
            int a = count;
            minutes[a] = minute;
            hours[a] = hour;
            weekdays[a] = weekday;
            rung[a] = 0;
            count++;
            return a;
        }

        void remove(int a) {
            if (!has(a)) {
                return;
            }
            count--;
            for (int i = a; i < count && i + 1 < ALARMS_MOST; i++) {
                minutes[i] = minutes[i + 1];
                hours[i] = hours[i + 1];
                weekdays[i] = weekdays[i + 1];
                rung[i] = rung[i + 1];
            }
        }

        int totalRings() {
            int total = 0;
            for (int a = 0; a < count && a < ALARMS_MOST; a++) {
                total += rung[a];
            }
            return total;
        }

        /** Rings for each minute behind the first up to the last; answers the set that rang. */
        int ring(long first, long last) {
            int rang = 0;
            for (int a = 0; a < count && a < ALARMS_MOST; a++) {
                int fitting = countFitting(a, first, last);
                if (fitting > 0) {
                    rang |= 1 << a;
                    rung[a] = Math.min(rung[a] + fitting, RINGS_MOST);
                }
            }
            return rang;
        }

        int ringsToCome(long first, long last) {
            int more = 0;
            for (int a = 0; a < count && a < ALARMS_MOST; a++) {
                more += Math.min(countFitting(a, first, last), RINGS_MOST - rung[a]);
            }
            return more;
        }

        int countFitting(int a, long first, long last) {
            return (int) (fittingAheadOf(a, last + 1) - fittingAheadOf(a, first + 1));
        }

        /** How many minutes from 0 on, ahead of m, fit: those of whole days, then of whole hours, then the others. */
        long fittingAheadOf(int a, long m) {
            if (!has(a)) {
                return 0;
            }
            long days = m / MINUTES_PER_DAY;
            long inHour = fittingBelow(minutes[a], MINUTES_PER_HOUR);
            long inDay = fittingBelow(hours[a], HOURS_PER_DAY) * inHour;
            long fittingDays = days / DAYS_PER_WEEK * fittingBelow(weekdays[a], DAYS_PER_WEEK) + fittingBelow(weekdays[a], days % DAYS_PER_WEEK);
            long fitting = fittingDays * inDay;
            if (fits(weekdays[a], weekdayOf(m))) {
                fitting += fittingBelow(hours[a], hourOf(m)) * inHour;
                if (fits(hours[a], hourOf(m))) {
                    fitting += fittingBelow(minutes[a], minuteOf(m));
                }
            }
            return fitting;
        }

        boolean fits(int field, int number) {
            return field == NONE || field == number;
        }

        /** How many of the numbers from 0 on, below the end, fit a field. */
        long fittingBelow(int field, long end) {
            if (field == NONE) {
                return end;
            }
            return field < end ? 1 : 0;
        }

        /** The least fitting minute behind the one given; whole days and hours that cannot fit are passed over. */
        long nextFit(int a, long behind) {
            if (!has(a)) {
                return NONE;
            }
            long m = behind + 1;
            for (int i = 0; i < JUMPS_MOST; i++) {
                if (!fits(weekdays[a], weekdayOf(m))) {
                    m = (m / MINUTES_PER_DAY + 1) * MINUTES_PER_DAY;
                } else if (!fits(hours[a], hourOf(m))) {
                    m = (m / MINUTES_PER_HOUR + 1) * MINUTES_PER_HOUR;
                } else if (!fits(minutes[a], minuteOf(m))) {
                    m++;
                } else {
                    return m;
                }
            }
            return NONE;
        }
    }
}
