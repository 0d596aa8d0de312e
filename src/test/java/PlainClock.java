import java.util.ArrayList;
import java.util.List;

/**
 * The document written down a second time, tick by tick and minute by minute, without any short cut:
 * what BoardClock answers is held against it in random runs.
 */
final class PlainClock {
    static final int UNKNOWN = -1000000001, OUTSIDE = -1000000002, NOT = -1000000003, FULL = -1000000004;

    static final class All implements Cloneable {
        long trueTime, board, ahead, w;
        int t = 25, top = 25, curve = 3, base = 0, rest, step = 20, d = 160, broken;
        boolean power = true;
        int[] learned = new int[9];
        List<int[]> since = new ArrayList<>();
        List<int[]> alarms = new ArrayList<>();

        All copy() {
            All c = new All();
            c.trueTime = trueTime; c.board = board; c.ahead = ahead; c.w = w;
            c.t = t; c.top = top; c.curve = curve; c.base = base; c.rest = rest; c.step = step; c.d = d; c.broken = broken;
            c.power = power;
            c.learned = learned.clone();
            c.since = new ArrayList<>(since);
            for (int[] a : alarms) c.alarms.add(a.clone());
            return c;
        }

        int off(int at) {
            return base - (curve * ((at - top) * (at - top))) / 100;
        }

        int span() {
            int s = 0;
            while (!(t >= -20 + 10 * s && t <= -11 + 10 * s)) s++;
            return s;
        }

        long aim() {
            return board + ahead;
        }

        static boolean fits(int[] a, long m) {
            return (a[0] == -1 || a[0] == m % 60) && (a[1] == -1 || a[1] == m / 60 % 24) && (a[2] == -1 || a[2] == m / 1440 % 7);
        }

        int oneTick() {
            long before = board / 60000;
            trueTime += 60000;
            board += 60000 + off(t);
            if (power) {
                int parted = rest - learned[span()];
                int beats = 0;
                while (parted < 0) { parted += 16; beats--; }
                while (parted > 15) { parted -= 16; beats++; }
                rest = parted;
                board += beats;
                long go = ahead > step ? step : ahead < -step ? -step : ahead;
                board += go;
                ahead -= go;
            }
            w += power ? d : 4 * d;
            if (w > 999999999) w = 999999999;
            since.add(new int[] {span(), power ? 1 : 0});
            int rang = 0;
            for (long m = before + 1; m <= board / 60000; m++) {
                for (int a = 0; a < alarms.size(); a++) {
                    int[] alarm = alarms.get(a);
                    if (fits(alarm, m)) {
                        rang |= 1 << a;
                        if (alarm[3] < 99999) alarm[3]++;
                    }
                }
            }
            return rang;
        }

        int heard(int error, int acc) {
            long r = trueTime + error;
            if (!since.isEmpty()) {
                boolean one = true;
                for (int[] s : since) one = one && s[1] == 1 && s[0] == since.get(0)[0];
                if (one) {
                    int s = since.get(0)[0];
                    long v = learned[s] + (aim() - r) * 16 / (2L * since.size());
                    learned[s] = (int) (v > 9999 ? 9999 : v < -9999 ? -9999 : v);
                }
            }
            since.clear();
            long low = (r - acc) * 16, high = (r + acc) * 16;
            long low2 = aim() * 16 - w, high2 = aim() * 16 + w;
            int was = 0;
            if (low > high2 || low2 > high) {
                was = 1;
                broken++;
            } else {
                low = low2 > low ? low2 : low;
                high = high2 < high ? high2 : high;
            }
            long middle = (long) Math.floor((low + high) / 32.0);
            w = Math.max(Math.abs(16 * middle - low), Math.abs(16 * middle - high));
            ahead = middle - board;
            return was;
        }

        int ringsOfAll() {
            int all = 0;
            for (int[] a : alarms) all += a[3];
            return all;
        }
    }

    All now = new All();
    long seed = 0;
    List<All> past = new ArrayList<>();
    All[] images = new All[2];
    long[] imageSeeds = new long[2];
    List<Integer> book = new ArrayList<>();

    private void deed() {
        past.add(now.copy());
        if (past.size() > 20) past.remove(0);
    }

    private static boolean in(int v, int low, int high) {
        return low <= v && v <= high;
    }

    int told(int what) {
        switch (what) {
            case 0: return now.t + 20;
            case 1: return now.span();
            case 2: return now.off(now.t) + 10000;
            case 3: return now.rest;
            case 4: return now.ahead == 0 ? 1 : 0;
            case 5: return (int) now.w;
            case 6: return now.step;
            case 7: return now.d;
            case 8: return now.power ? 1 : 0;
            case 9: return now.since.size();
            case 10: return now.broken;
            case 11: return Math.abs(16 * now.trueTime - 16 * now.aim()) <= now.w ? 1 : 0;
            case 12: return now.alarms.size();
            case 13: return now.ringsOfAll();
            case 14: return untilDone();
            case 15: return book.size();
            case 16:
                for (int i = 0; i < book.size(); i++) if (book.get(i) != now.board / 60000) return i;
                return -1;
            case 17: return past.size();
            default: return OUTSIDE;
        }
    }

    private int untilDone() {
        All c = now.copy();
        c.alarms.clear();
        for (int n = 0; n <= 2000; n++) {
            if (c.ahead == 0) return n;
            c.oneTick();
        }
        return -1;
    }

    long time(int what) {
        return what == 0 ? now.trueTime : what == 1 ? now.board : what == 2 ? now.aim() : -1;
    }

    int calendar(int what) {
        int m = (int) (now.board / 60000);
        return what == 0 ? m : what == 1 ? m % 60 : what == 2 ? m / 60 % 24 : what == 3 ? m / 1440 % 7 : OUTSIDE;
    }

    int span(int s, int what) {
        if (!in(s, 0, 8)) return UNKNOWN;
        return what == 0 ? now.learned[s] + 10000 : what == 1 ? now.learned[s] - 16 * now.off(-20 + 10 * s + 5) + 100000 : OUTSIDE;
    }

    int alarmAt(int a, int what) {
        if (!in(a, 0, now.alarms.size() - 1)) return UNKNOWN;
        if (in(what, 0, 3)) return now.alarms.get(a)[what];
        if (what != 4) return OUTSIDE;
        long m = now.board / 60000 + 1;
        while (!All.fits(now.alarms.get(a), m)) m++;
        return (int) m;
    }

    int tick(int n) {
        if (!in(n, 1, 2000)) return OUTSIDE;
        deed();
        int rang = 0;
        for (int i = 0; i < n; i++) rang |= now.oneTick();
        return rang;
    }

    int warm(int t) {
        if (!in(t, -20, 69)) return OUTSIDE;
        deed();
        int was = now.t + 20;
        now.t = t;
        return was;
    }

    int crystal(int top, int curve, int base) {
        if (!in(top, 0, 40) || !in(curve, 0, 20) || !in(base, -9, 9)) return OUTSIDE;
        deed();
        now.top = top; now.curve = curve; now.base = base;
        return now.off(now.t) + 10000;
    }

    int bound(int what, int v) {
        if (what == 0 && in(v, 1, 200)) {
            deed();
            int was = now.step;
            now.step = v;
            return was;
        }
        if (what == 1 && in(v, 0, 999)) {
            deed();
            int was = now.d;
            now.d = v;
            return was;
        }
        return OUTSIDE;
    }

    int power(boolean is) {
        deed();
        int was = now.power ? 1 : 0;
        now.power = is;
        return was;
    }

    int hear(int error, int acc) {
        if (!in(error, -9999, 9999) || !in(acc, 0, 5000)) return OUTSIDE;
        deed();
        return now.heard(error, acc);
    }

    int alarm(int minute, int hour, int weekday) {
        if (!in(minute, -1, 59) || !in(hour, -1, 23) || !in(weekday, -1, 6)) return OUTSIDE;
        if (now.alarms.size() == 6) return FULL;
        deed();
        now.alarms.add(new int[] {minute, hour, weekday, 0});
        return now.alarms.size() - 1;
    }

    int drop(int a) {
        if (!in(a, 0, now.alarms.size() - 1)) return UNKNOWN;
        deed();
        now.alarms.remove(a);
        return now.alarms.size();
    }

    int learn(int s, int v) {
        if (!in(s, 0, 8)) return UNKNOWN;
        if (!in(v, -9999, 9999)) return OUTSIDE;
        deed();
        int was = now.learned[s] + 10000;
        now.learned[s] = v;
        return was;
    }

    private int draw(int n) {
        seed = (seed * 1103515245L + 12345L) % (1L << 31);
        return (int) (seed / 65536 % n);
    }

    int drift(int n) {
        if (!in(n, 1, 20)) return OUTSIDE;
        for (int i = 0; i < n; i++) {
            deed();
            int kind = draw(8), second = draw(90), third = draw(1001);
            if (kind == 0) now.t = second - 20;
            else if (kind == 1) now.heard(third - 500, 500);
            else now.oneTick();
        }
        return now.ringsOfAll();
    }

    int undo(int n) {
        if (!in(n, 1, 20)) return OUTSIDE;
        if (n > past.size()) return NOT;
        for (int i = 0; i < n; i++) now = past.remove(past.size() - 1);
        return past.size();
    }

    int evenly(int n, int k, int i) {
        if (!in(n, 1, 999) || !in(k, 0, n) || !in(i, 0, n - 1)) return OUTSIDE;
        return (i + 1) * k / n - i * k / n > 0 ? 1 : 0;
    }

    long after(int n) {
        if (!in(n, 0, 2000)) return -1;
        All c = now.copy();
        for (int i = 0; i < n; i++) c.oneTick();
        return c.board;
    }

    int rings(int n) {
        if (!in(n, 0, 2000)) return OUTSIDE;
        All c = now.copy();
        for (int i = 0; i < n; i++) c.oneTick();
        return c.ringsOfAll() - now.ringsOfAll();
    }

    int untilWide(int w) {
        if (!in(w, 0, 99999)) return OUTSIDE;
        if (now.w > 16L * w) return 0;
        if (now.d == 0) return -1;
        int n = 0;
        for (long wide = now.w; wide <= 16L * w; wide += now.power ? now.d : 4L * now.d) n++;
        return n;
    }

    int write(int minute) {
        if (book.size() == 20) return FULL;
        book.add(minute);
        return book.size();
    }

    int tear() {
        int had = book.size();
        book.clear();
        return had;
    }

    int seed(int v) {
        if (v < 0) return OUTSIDE;
        int was = (int) seed;
        seed = v;
        return was;
    }

    int keep(int i) {
        if (!in(i, 0, 1)) return UNKNOWN;
        images[i] = now.copy();
        imageSeeds[i] = seed;
        past.clear();
        return 1;
    }

    int goBack(int i) {
        if (!in(i, 0, 1)) return UNKNOWN;
        if (images[i] == null) return NOT;
        now = images[i].copy();
        seed = imageSeeds[i];
        past.clear();
        return 1;
    }
}
