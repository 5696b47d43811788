import java.time.LocalDate;
import java.util.ArrayList;
import java.util.BitSet;
import java.util.List;
import java.util.TreeMap;
import java.util.TreeSet;

/**
 * The document once more, in its plainest form, to hold TickKeeper against. It knows DUE MINUTES up to a horizon
 * alone, each found by going through all LOCAL minutes; NOW has to stay within the horizon.
 */
final class PlainKeeper {
    static final int BAD = -1, STATE = -2, FULL = -3, NONE = -9;
    static final int LAST = 21038399;
    /** What due() and between() answer for "none up to the horizon"; no call of the document answers it. */
    static final int BEYOND = -2000000;

    static final class Zone {
        final TreeMap<Integer, Integer> shifts = new TreeMap<>();
        final TreeSet<Integer> holidays = new TreeSet<>();

        int localOf(int minute) {
            return minute + (shifts.floorEntry(minute) == null ? 0 : shifts.floorEntry(minute).getValue());
        }

        boolean isWorking(int day) {
            return !holidays.contains(day) && weekday(day) < 5;
        }
    }

    static final class Job {
        Zone zone;
        final long[] masks = new long[5];
        final List<int[]> nths = new ArrayList<>();
        final List<Integer> exceptions = new ArrayList<>();
        final List<Integer> extras = new ArrayList<>();
        int way, mode, lateness, waiting, passed;
        boolean paused;
        final TreeSet<Integer> others = new TreeSet<>();
        final List<int[]> effects = new ArrayList<>();
        BitSet due;

        boolean inMask(int field, int bit) {
            return (masks[field] & 1L << bit) != 0;
        }

        boolean fits(int day) {
            LocalDate date = date(day);
            if (!inMask(3, date.getMonthValue())) return false;
            if (inMask(2, date.getDayOfMonth()) && inMask(4, weekday(day))) return true;
            for (int[] nth : nths) {
                if (nth[0] != weekday(day)) continue;
                boolean last = date.plusDays(7).getMonthValue() != date.getMonthValue();
                if (nth[1] == 6 ? last : (date.getDayOfMonth() + 6) / 7 == nth[1]) return true;
            }
            return false;
        }

        boolean isOn(int day) {
            if (fits(day) && (!zone.holidays.contains(day) || way == 0)) return true;
            if (way != 2 || !zone.isWorking(day)) return false;
            for (int back = day - 1; !zone.isWorking(back); back--) {
                if (zone.holidays.contains(back) && fits(back)) return true;
            }
            return false;
        }
    }

    static final class Run {
        int ballot, stage, accepted, upTo, guard, minute = NONE;
        boolean over;
    }

    static final class Register {
        int promised, accepted, upTo = -1, guard, seen;
        Run run;
    }

    /** Its numbers are as letter() tells them. */
    record Letter(int kind, int from, int to, int job, int ballot, int five, int six, int seven) { }

    final int horizon;
    final List<Zone> zones = new ArrayList<>();
    final List<Job> jobs = new ArrayList<>();
    final List<Letter> letters = new ArrayList<>();
    final Register[][] registers = new Register[3][12];
    final boolean[] down = new boolean[3];
    final boolean[] deskDown = new boolean[2];
    int now, lost, refused;

    PlainKeeper(int horizon) {
        this.horizon = horizon;
        for (Register[] of : registers) for (int j = 0; j < 12; j++) of[j] = new Register();
    }

    static LocalDate date(int day) {
        return LocalDate.of(2000, 1, 1).plusDays(day);
    }

    static int weekday(int day) {
        return date(day).getDayOfWeek().getValue() - 1;
    }

    boolean isZone(int z) { return z >= 0 && z < zones.size(); }
    boolean isJob(int j) { return j >= 0 && j < jobs.size(); }
    static boolean isMinute(int m) { return m >= 0 && m <= LAST; }
    static boolean in(int x, int a, int b) { return x >= a && x <= b; }

    /** DUE MINUTES up to the horizon, by going through the LOCAL minutes. */
    BitSet dueOf(Job job) {
        if (job.due != null) return job.due;
        BitSet due = new BitSet(horizon + 1);
        int local = job.zone.localOf(0);
        int dayKnown = Integer.MIN_VALUE;
        boolean on = false;
        int offset = 0;
        int nextShift = 0;
        for (int minute = 0; minute <= horizon; minute++) {
            if (minute == nextShift) {
                offset = job.zone.localOf(minute) - minute;
                Integer later = job.zone.shifts.higherKey(minute);
                nextShift = later == null ? -1 : later;
            }
            int reached = minute + offset;
            for (; local <= reached; local++) {
                int day = Math.floorDiv(local, 1440);
                if (day != dayKnown) {
                    dayKnown = day;
                    on = job.isOn(day);
                }
                int rest = Math.floorMod(local, 1440);
                if (on && job.inMask(1, rest / 60) && job.inMask(0, rest % 60)) due.set(minute);
            }
        }
        for (int exception : job.exceptions) if (exception <= horizon) due.clear(exception);
        for (int extra : job.extras) due.set(extra);
        job.due = due;
        return due;
    }

    void allStale() {
        for (Job job : jobs) job.due = null;
    }

    int zone() {
        if (zones.size() == 3) return FULL;
        zones.add(new Zone());
        return zones.size() - 1;
    }

    int shift(int zone, int minute, int offset) {
        if (!isZone(zone) || !isMinute(minute) || !in(offset, -840, 840)) return BAD;
        TreeMap<Integer, Integer> shifts = zones.get(zone).shifts;
        if (!shifts.isEmpty() && minute <= shifts.lastKey()) return STATE;
        if (shifts.size() == 10) return FULL;
        shifts.put(minute, offset);
        allStale();
        return shifts.size();
    }

    int holiday(int zone, int day) {
        if (!isZone(zone) || !in(day, 0, 14609)) return BAD;
        TreeSet<Integer> holidays = zones.get(zone).holidays;
        if (holidays.contains(day)) return 0;
        if (holidays.size() == 20) return FULL;
        holidays.add(day);
        allStale();
        return 1;
    }

    int local(int zone, int minute) {
        return isZone(zone) && isMinute(minute) ? zones.get(zone).localOf(minute) : -1000000;
    }

    int moment(int zone, int local) {
        if (!isZone(zone)) return BAD;
        Zone z = zones.get(zone);
        if (local < z.localOf(0)) return NONE;
        // No LOCAL minute is farther than 840 from its MINUTE, so the search may begin 1680 ahead of it.
        for (long m = Math.max(0, (long) local - 1680); m <= LAST && m <= (long) local + 1680; m++) {
            if (z.localOf((int) m) >= local) return (int) m;
        }
        return NONE;
    }

    int day(int zone, int day, int what) {
        if (!in(day, -1000, 20000) || !in(what, 0, 5) || what >= 4 && !isZone(zone)) return BAD;
        switch (what) {
            case 0: return date(day).getYear();
            case 1: return date(day).getMonthValue();
            case 2: return date(day).getDayOfMonth();
            case 3: return weekday(day);
            case 4: return zones.get(zone).holidays.contains(day) ? 1 : 0;
            default: return zones.get(zone).isWorking(day) ? 1 : 0;
        }
    }

    int job(int zone) {
        if (!isZone(zone)) return BAD;
        if (jobs.size() == 12) return FULL;
        Job job = new Job();
        job.zone = zones.get(zone);
        jobs.add(job);
        return jobs.size() - 1;
    }

    int mask(int job, int field, long bits) {
        if (!isJob(job) || !in(field, 0, 4)) return BAD;
        int[] low = {0, 0, 1, 1, 0};
        int[] high = {59, 23, 31, 12, 6};
        long kept = 0;
        int count = 0;
        for (int bit = low[field]; bit <= high[field]; bit++) {
            if ((bits >> bit & 1) != 0) {
                kept |= 1L << bit;
                count++;
            }
        }
        jobs.get(job).masks[field] = kept;
        jobs.get(job).due = null;
        return count;
    }

    int nth(int job, int weekday, int n) {
        if (!isJob(job) || !in(weekday, 0, 6) || !in(n, 1, 6)) return BAD;
        if (jobs.get(job).nths.size() == 3) return FULL;
        jobs.get(job).nths.add(new int[] {weekday, n});
        jobs.get(job).due = null;
        return jobs.get(job).nths.size();
    }

    int except(int job, int minute) {
        if (!isJob(job) || !isMinute(minute)) return BAD;
        if (jobs.get(job).exceptions.size() == 6) return FULL;
        jobs.get(job).exceptions.add(minute);
        jobs.get(job).due = null;
        return jobs.get(job).exceptions.size();
    }

    int onHoliday(int job, int way) {
        if (!isJob(job) || !in(way, 0, 2)) return BAD;
        int was = jobs.get(job).way;
        jobs.get(job).way = way;
        jobs.get(job).due = null;
        return was;
    }

    int catchUp(int job, int mode, int lateness) {
        if (!isJob(job) || !in(mode, 0, 2) || !in(lateness, 0, 1440)) return BAD;
        jobs.get(job).mode = mode;
        jobs.get(job).lateness = lateness;
        return 1;
    }

    boolean waitsBySteps(int job, int other) {
        for (int next : jobs.get(job).others) if (next == other || waitsBySteps(next, other)) return true;
        return false;
    }

    int after(int job, int other) {
        if (!isJob(job) || !isJob(other)) return BAD;
        if (job == other || waitsBySteps(other, job) || jobs.get(job).others.contains(other)) return STATE;
        if (jobs.get(job).others.size() == 3) return FULL;
        jobs.get(job).others.add(other);
        return jobs.get(job).others.size();
    }

    int pause(int job, boolean on) {
        if (!isJob(job)) return BAD;
        int was = jobs.get(job).paused ? 1 : 0;
        jobs.get(job).paused = on;
        return was;
    }

    int due(int job, int from) {
        if (!isJob(job) || !isMinute(from)) return BAD;
        int found = from > horizon ? -1 : dueOf(jobs.get(job)).nextSetBit(from);
        return found < 0 ? BEYOND : found;
    }

    int between(int job, int a, int b, int i) {
        if (!isJob(job) || !isMinute(a) || !isMinute(b) || !in(i, 0, 50)) return BAD;
        int left = i;
        for (int m = a; m <= b; m++) {
            if (m > horizon) return BEYOND;
            if (dueOf(jobs.get(job)).get(m) && left-- == 0) return m;
        }
        return NONE;
    }

    boolean isDueWithin(Job job, int from, int to) {
        int found = dueOf(job).nextSetBit(from);
        return found >= 0 && found <= to;
    }

    int runNow(int j) {
        if (!isJob(j)) return BAD;
        Job job = jobs.get(j);
        for (int[] effect : job.effects) if (effect[0] >= now) return STATE;
        for (int m = 0; m <= now; m++) {
            if (dueOf(job).get(m) && m > registers[0][j].upTo && m > registers[1][j].upTo && m > registers[2][j].upTo) {
                return STATE;
            }
        }
        if (job.extras.size() == 8) return FULL;
        job.extras.add(now);
        job.due = null;
        return job.extras.size();
    }

    int now(int minute) {
        if (!isMinute(minute)) return BAD;
        if (minute < now) return STATE;
        now = minute;
        return 1;
    }

    void send(Letter letter) {
        if (letters.size() == 60) lost++;
        else letters.add(letter);
    }

    int wake(int s) {
        if (!in(s, 0, 2)) return BAD;
        if (down[s]) return STATE;
        int begun = 0;
        for (int j = 0; j < jobs.size(); j++) {
            Register r = registers[s][j];
            if (jobs.get(j).paused) continue;
            if (r.run == null && !isDueWithin(jobs.get(j), r.upTo + 1, now)) continue;
            int ballot = 3 + s;
            while (ballot <= r.seen || ballot <= r.promised) ballot += 3;
            r.promised = ballot;
            r.seen = ballot;
            r.run = new Run();
            r.run.ballot = ballot;
            r.run.stage = 1;
            r.run.accepted = r.accepted;
            r.run.upTo = r.upTo;
            r.run.guard = r.guard;
            for (int to = 0; to < 3; to++) if (to != s) send(new Letter(0, s, to, j, ballot, 0, 0, 0));
            begun++;
        }
        return begun;
    }

    int deliver(int i) {
        if (!in(i, 0, letters.size() - 1)) return BAD;
        Letter letter = letters.remove(i);
        if (letter.kind == 5) {
            if (!deskDown[letter.to]) toDesk(letter);
        } else if (!down[letter.to]) {
            toScheduler(letter);
        }
        return letter.kind;
    }

    void toDesk(Letter letter) {
        List<int[]> effects = jobs.get(letter.job).effects;
        int[] latest = effects.isEmpty() ? new int[] {-1, 0} : effects.get(effects.size() - 1);
        if (letter.ballot > latest[1] && letter.five > latest[0]) effects.add(new int[] {letter.five, letter.ballot});
        else refused++;
    }

    void toScheduler(Letter l) {
        Register r = registers[l.to][l.job];
        boolean mine = r.run != null && r.run.ballot == l.ballot;
        if (l.kind == 0) {
            if (l.ballot > r.promised) {
                r.promised = l.ballot;
                send(new Letter(1, l.to, l.from, l.job, l.ballot, r.accepted, r.upTo, r.guard));
            } else {
                send(new Letter(4, l.to, l.from, l.job, l.ballot, r.promised, 0, 0));
            }
        } else if (l.kind == 1) {
            if (!mine || r.run.stage != 1) return;
            boolean theirs = l.five > r.run.accepted;
            decide(l.to, l.job, theirs ? l.six : r.run.upTo, theirs ? l.seven : r.run.guard);
        } else if (l.kind == 2) {
            if (l.ballot < r.promised) {
                send(new Letter(4, l.to, l.from, l.job, l.ballot, r.promised, 0, 0));
                return;
            }
            r.promised = l.ballot;
            r.accepted = l.ballot;
            r.upTo = l.five;
            r.guard = l.seven;
            send(new Letter(3, l.to, l.from, l.job, l.ballot, 0, 0, 0));
        } else if (l.kind == 3) {
            if (!mine || r.run.stage != 2) return;
            if (r.run.over) jobs.get(l.job).passed++;
            if (r.run.minute != NONE) send(new Letter(5, l.to, l.job % 2, l.job, r.run.guard, r.run.minute, 0, 0));
            r.run = null;
        } else {
            r.seen = Math.max(r.seen, l.five);
            if (mine) r.run = null;
        }
    }

    int minuteToClaim(Job job, int u) {
        if (job.mode == 2) return now > u && dueOf(job).get(now) ? now : NONE;
        int found = NONE;
        for (int m = Math.max(0, now - job.lateness); m <= now; m++) {
            if (m > u && dueOf(job).get(m)) {
                found = m;
                if (job.mode == 0) return found;
            }
        }
        return found;
    }

    boolean waitsFor(Job other, int minute) {
        int day = Math.floorDiv(other.zone.localOf(minute), 1440);
        for (int[] effect : other.effects) {
            if (Math.floorDiv(other.zone.localOf(effect[0]), 1440) == day) return false;
        }
        for (int m = Math.max(0, minute - 6000); m <= minute + 6000; m++) {
            if (dueOf(other).get(m) && Math.floorDiv(other.zone.localOf(m), 1440) == day) return true;
        }
        return false;
    }

    void decide(int s, int j, int u, int guard) {
        Register r = registers[s][j];
        Job job = jobs.get(j);
        int minute = minuteToClaim(job, u);
        job.waiting = 0;
        if (minute != NONE) for (int o : job.others) if (waitsFor(jobs.get(o), minute)) job.waiting |= 1 << o;
        if (job.waiting != 0 || !isDueWithin(job, u + 1, now) || job.paused || r.promised > r.run.ballot) {
            r.run = null;
            return;
        }
        r.run.over = isDueWithin(job, u + 1, minute == NONE ? now : minute - 1);
        r.run.stage = 2;
        r.run.minute = minute;
        r.run.upTo = minute == NONE ? now : minute;
        r.run.guard = minute == NONE ? guard : guard + 1;
        r.accepted = r.run.ballot;
        r.upTo = r.run.upTo;
        r.guard = r.run.guard;
        for (int to = 0; to < 3; to++) {
            if (to != s) send(new Letter(2, s, to, j, r.run.ballot, r.upTo, 0, r.guard));
        }
    }

    int flow(int n) {
        if (!in(n, 1, 50)) return BAD;
        int done = 0;
        while (done < n && !letters.isEmpty()) {
            deliver(0);
            done++;
        }
        return done;
    }

    int lose(int i) {
        return in(i, 0, letters.size() - 1) ? letters.remove(i).kind : BAD;
    }

    int twin(int i) {
        if (!in(i, 0, letters.size() - 1)) return BAD;
        if (letters.size() == 60) return FULL;
        letters.add(letters.get(i));
        return letters.size();
    }

    int letter(int i, int what) {
        if (!in(i, 0, letters.size() - 1) || !in(what, 0, 7)) return BAD;
        Letter l = letters.get(i);
        return new int[] {l.kind, l.from, l.to, l.job, l.ballot, l.five, l.six, l.seven}[what];
    }

    int crash(int s) {
        if (!in(s, 0, 2)) return BAD;
        if (down[s]) return STATE;
        down[s] = true;
        int ended = 0;
        for (Register r : registers[s]) {
            if (r.run != null) ended++;
            r.run = null;
            r.seen = r.promised;
        }
        return ended;
    }

    int restart(int s) {
        if (!in(s, 0, 2)) return BAD;
        if (!down[s]) return STATE;
        down[s] = false;
        return 1;
    }

    int desk(int desk, boolean isDown) {
        if (!in(desk, 0, 1)) return BAD;
        int was = deskDown[desk] ? 1 : 0;
        deskDown[desk] = isDown;
        return was;
    }

    int register(int s, int j, int what) {
        if (!in(s, 0, 2) || !isJob(j) || !in(what, 0, 6)) return BAD;
        Register r = registers[s][j];
        Run run = r.run == null ? new Run() : r.run;
        return new int[] {r.promised, r.accepted, r.upTo, r.guard, run.ballot, run.stage, run.minute}[what];
    }

    int effects(int j) {
        return isJob(j) ? jobs.get(j).effects.size() : BAD;
    }

    int effect(int j, int i, int what) {
        if (!isJob(j) || !in(what, 0, 1)) return BAD;
        return in(i, 0, jobs.get(j).effects.size() - 1) ? jobs.get(j).effects.get(i)[what] : NONE;
    }

    int waiting(int j) {
        return isJob(j) ? jobs.get(j).waiting : BAD;
    }

    int passed(int j) {
        return isJob(j) ? jobs.get(j).passed : BAD;
    }

    int count(int what) {
        int runs = 0;
        for (Register[] of : registers) for (Register r : of) if (r.run != null) runs++;
        return in(what, 0, 6)
                ? new int[] {now, zones.size(), jobs.size(), letters.size(), runs, lost, refused}[what] : BAD;
    }
}
