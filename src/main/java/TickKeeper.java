import java.util.Arrays;

/**
 * Jobs by calendar rules, which three schedulers claim by ballots and letters, and desks do.
 * The words in the comments (MINUTE, RUN, DUE ..) are those of the document.
 */
public final class TickKeeper {
    public static final int BAD = -1, STATE = -2, FULL = -3, NONE = -9;

    // LOCAL minutes below 0 are proper answers, so BAD would be taken for one of them.
    private static final int BAD_LOCAL = -1000000;
    // Stands for a minute or a day that there is not: later than all, so that Math.min leaves it out.
    private static final int FAR = 0x7FFFFFFF;

    private static final int LAST_MINUTE = 21038399;
    private static final int MINUTES_A_DAY = 1440;
    private static final int FIRST_DAY_TOLD = -1000, LAST_DAY_TOLD = 20000, LAST_HOLIDAY = 14609;
    private static final int FARTHEST_OFFSET = 840;
    private static final int LONGEST_LATENESS = 1440;

    private static final int ZONES = 3, SHIFTS = 10, HOLIDAYS = 20;
    private static final int JOBS = 12, NTHS = 3, EXCEPTIONS = 6, EXTRAS = 8, AWAITED = 3;
    private static final int SCHEDULERS = 3, DESKS = 2, LETTERS = 60;
    private static final int LONGEST_FLOW = 50, LAST_BETWEEN = 50;
    // One wake begins one RUN of a JOB at most, and an object is used for 512 calls.
    private static final int EFFECTS = 512;

    private static final int MINUTE_MASK = 0, HOUR_MASK = 1, DAY_MASK = 2, MONTH_MASK = 3, WEEKDAY_MASK = 4;
    private static final int MASKS = 5;
    private static final int LAST_OF_MONTH = 6;
    private static final int WAY_NONE = 0, WAY_MOVE = 2;
    private static final int NEWEST_ALONE = 1, NO_CATCHING_UP = 2;

    private static final int ASK = 0, PROMISE = 1, WRITE = 2, WRITTEN = 3, REFUSE = 4, EFFECT = 5;
    private static final int NO_RUN = 0, ASKS = 1, WRITES = 2;

    private final Zone[] zones = new Zone[ZONES];
    private final Job[] jobs = new Job[JOBS];
    private final Register[] registers = new Register[SCHEDULERS * JOBS];
    private final boolean[] schedulerDown = new boolean[SCHEDULERS];
    private final boolean[] deskDown = new boolean[DESKS];
    private final Letters letters = new Letters();
    private int zoneCount;
    private int jobCount;
    private int minuteNow;
    private int refusedEffects;

    public TickKeeper() {
        for (int i = 0; i < registers.length; i++) {
            registers[i] = new Register();
        }
    }

    // ---- calendar

    public int zone() {
        if (zoneCount >= ZONES) {
            return FULL;
        }
        zones[zoneCount] = new Zone();
        zoneCount++;
        return zoneCount - 1;
    }

    public int shift(int zone, int minute, int offset) {
        Zone shifted = zoneAt(zone);
        if (shifted == null || !isMinute(minute) || offset < -FARTHEST_OFFSET || offset > FARTHEST_OFFSET) {
            return BAD;
        }
        if (minute <= shifted.latestShift()) {
            return STATE;
        }
        return shifted.addShift(minute, offset) ? shifted.shiftCount() : FULL;
    }

    public int holiday(int zone, int day) {
        Zone resting = zoneAt(zone);
        if (resting == null || day < 0 || day > LAST_HOLIDAY) {
            return BAD;
        }
        if (resting.isHoliday(day)) {
            return 0;
        }
        return resting.addHoliday(day) ? 1 : FULL;
    }

    public int local(int zone, int minute) {
        Zone asked = zoneAt(zone);
        if (asked == null || !isMinute(minute)) {
            return BAD_LOCAL;
        }
        return asked.localOf(minute);
    }

    public int moment(int zone, int local) {
        Zone asked = zoneAt(zone);
        if (asked == null) {
            return BAD;
        }
        return orNone(asked.momentOf(local));
    }

    public int day(int zone, int day, int what) {
        if (day < FIRST_DAY_TOLD || day > LAST_DAY_TOLD) {
            return BAD;
        }
        int month = Dates.monthOf(day);
        switch (what) {
            case 0: return Dates.yearOf(month);
            case 1: return Dates.monthOfYear(month);
            case 2: return day - Dates.startOf(month) + 1;
            case 3: return Dates.weekdayOf(day);
            default: break;
        }
        Zone asked = zoneAt(zone);
        if (asked == null) {
            return BAD;
        }
        switch (what) {
            case 4: return asked.isHoliday(day) ? 1 : 0;
            case 5: return asked.isWorking(day) ? 1 : 0;
            default: return BAD;
        }
    }

    // ---- jobs

    public int job(int zone) {
        Zone home = zoneAt(zone);
        if (home == null) {
            return BAD;
        }
        if (jobCount >= JOBS) {
            return FULL;
        }
        jobs[jobCount] = new Job(new Rule(home));
        jobCount++;
        return jobCount - 1;
    }

    public int mask(int job, int field, long bits) {
        Job masked = jobAt(job);
        return masked == null ? BAD : masked.rule.setMask(field, bits);
    }

    public int nth(int job, int weekday, int n) {
        Job changed = jobAt(job);
        if (changed == null || weekday < 0 || weekday > 6 || n < 1 || n > LAST_OF_MONTH) {
            return BAD;
        }
        return changed.rule.addNth(weekday, n);
    }

    public int except(int job, int minute) {
        Job changed = jobAt(job);
        if (changed == null || !isMinute(minute)) {
            return BAD;
        }
        return changed.rule.addException(minute);
    }

    public int onHoliday(int job, int way) {
        Job changed = jobAt(job);
        if (changed == null || way < WAY_NONE || way > WAY_MOVE) {
            return BAD;
        }
        int before = changed.rule.way;
        changed.rule.way = way;
        return before;
    }

    public int catchUp(int job, int mode, int lateness) {
        Job changed = jobAt(job);
        if (changed == null || mode < 0 || mode > NO_CATCHING_UP || lateness < 0 || lateness > LONGEST_LATENESS) {
            return BAD;
        }
        changed.mode = mode;
        changed.lateness = lateness;
        return 1;
    }

    public int after(int job, int other) {
        Job waiter = jobAt(job);
        if (waiter == null || jobAt(other) == null) {
            return BAD;
        }
        if (reaches(other, job) || (waiter.awaited >> other & 1) != 0) {
            return STATE;
        }
        if (Integer.bitCount(waiter.awaited) >= AWAITED) {
            return FULL;
        }
        waiter.awaited |= 1 << other;
        return Integer.bitCount(waiter.awaited);
    }

    public int pause(int job, boolean on) {
        Job changed = jobAt(job);
        if (changed == null) {
            return BAD;
        }
        int before = changed.paused ? 1 : 0;
        changed.paused = on;
        return before;
    }

    public int due(int job, int from) {
        Job asked = jobAt(job);
        if (asked == null || !isMinute(from)) {
            return BAD;
        }
        return orNone(asked.rule.firstDue(from, LAST_MINUTE));
    }

    public int between(int job, int a, int b, int i) {
        Job asked = jobAt(job);
        if (asked == null || !isMinute(a) || !isMinute(b) || i < 0 || i > LAST_BETWEEN) {
            return BAD;
        }
        int found = asked.rule.firstDue(a, b);
        for (int k = 0; k < i && found != FAR; k++) {
            found = asked.rule.firstDue(found + 1, b);
        }
        return orNone(found);
    }

    public int runNow(int job) {
        Job asked = jobAt(job);
        if (asked == null) {
            return BAD;
        }
        boolean unclaimed = asked.rule.firstDue(highestUpTo(job) + 1, minuteNow) != FAR;
        if (unclaimed || asked.latestMinute() >= minuteNow) {
            return STATE;
        }
        return asked.rule.addExtra(minuteNow);
    }

    // ---- schedulers, desks, letters

    public int now(int minute) {
        if (!isMinute(minute)) {
            return BAD;
        }
        if (minute < minuteNow) {
            return STATE;
        }
        minuteNow = minute;
        return 1;
    }

    public int wake(int scheduler) {
        if (!isScheduler(scheduler)) {
            return BAD;
        }
        if (schedulerDown[scheduler]) {
            return STATE;
        }
        int begun = 0;
        for (int i = 0; i < jobCount; i++) {
            Job woken = jobAt(i);
            Register own = registerOf(scheduler, i);
            if (woken == null || own == null || woken.paused) {
                continue;
            }
            if (own.run.stage != NO_RUN || woken.rule.firstDue(own.upTo + 1, minuteNow) != FAR) {
                int ballot = own.beginRun(scheduler);
                sendToOthers(ASK, scheduler, i, ballot, 0, 0);
                begun++;
            }
        }
        return begun;
    }

    public int deliver(int i) {
        Letter letter = letters.take(i);
        if (letter == null) {
            return BAD;
        }
        if (handOver(letter)) {
            decide(letter.to, letter.job);
        }
        return letter.kind;
    }

    public int flow(int n) {
        if (n < 1 || n > LONGEST_FLOW) {
            return BAD;
        }
        int delivered = 0;
        for (int k = 0; k < n; k++) {
            Letter letter = letters.take(0);
            if (letter == null) {
                break;
            }
            if (handOver(letter)) {
                decide(letter.to, letter.job);
            }
            delivered++;
        }
        return delivered;
    }

    public int lose(int i) {
        Letter letter = letters.take(i);
        return letter == null ? BAD : letter.kind;
    }

    public int twin(int i) {
        Letter letter = letters.at(i);
        if (letter == null) {
            return BAD;
        }
        if (letters.size >= LETTERS) {
            return FULL;
        }
        Letter second = letters.post(letter.kind, letter.from, letter.to, letter.job);
        second.say(letter.ballot, letter.second, letter.upTo, letter.guard);
        return letters.size;
    }

    public int letter(int i, int what) {
        Letter read = letters.at(i);
        if (read == null) {
            return BAD;
        }
        switch (what) {
            case 0: return read.kind;
            case 1: return read.from;
            case 2: return read.to;
            case 3: return read.job;
            case 4: return read.ballot;
            case 5: return read.second;
            case 6: return read.upTo;
            case 7: return read.guard;
            default: return BAD;
        }
    }

    public int crash(int scheduler) {
        if (!isScheduler(scheduler)) {
            return BAD;
        }
        if (schedulerDown[scheduler]) {
            return STATE;
        }
        schedulerDown[scheduler] = true;
        int ended = 0;
        for (int i = 0; i < jobCount; i++) {
            Register own = registerOf(scheduler, i);
            if (own != null) {
                ended += own.run.stage == NO_RUN ? 0 : 1;
                own.forget();
            }
        }
        return ended;
    }

    public int restart(int scheduler) {
        if (!isScheduler(scheduler)) {
            return BAD;
        }
        if (!schedulerDown[scheduler]) {
            return STATE;
        }
        schedulerDown[scheduler] = false;
        return 1;
    }

    public int desk(int desk, boolean down) {
        if (!isDesk(desk)) {
            return BAD;
        }
        int before = deskDown[desk] ? 1 : 0;
        deskDown[desk] = down;
        return before;
    }

    // ---- what is seen

    public int register(int scheduler, int job, int what) {
        Register asked = registerOf(scheduler, job);
        if (asked == null) {
            return BAD;
        }
        switch (what) {
            case 0: return asked.promised;
            case 1: return asked.accepted;
            case 2: return asked.upTo;
            case 3: return asked.guard;
            case 4: return asked.run.ballot;
            case 5: return asked.run.stage;
            case 6: return orNone(asked.run.minute);
            default: return BAD;
        }
    }

    public int effects(int job) {
        Job asked = jobAt(job);
        return asked == null ? BAD : asked.minutes.size;
    }

    public int effect(int job, int i, int what) {
        Job asked = jobAt(job);
        if (asked == null || what < 0 || what > 1) {
            return BAD;
        }
        if (i < 0 || i >= asked.minutes.size) {
            return NONE;
        }
        return what == 0 ? asked.minutes.at(i) : asked.guards.at(i);
    }

    public int waiting(int job) {
        Job asked = jobAt(job);
        return asked == null ? BAD : asked.unmet;
    }

    public int passed(int job) {
        Job asked = jobAt(job);
        return asked == null ? BAD : asked.timesPassed;
    }

    public int count(int what) {
        switch (what) {
            case 0: return minuteNow;
            case 1: return zoneCount;
            case 2: return jobCount;
            case 3: return letters.size;
            case 4: return runCount();
            case 5: return letters.lostForRoom;
            case 6: return refusedEffects;
            default: return BAD;
        }
    }

    // ---- looking things up

    private static boolean isMinute(int minute) {
        return minute >= 0 && minute <= LAST_MINUTE;
    }

    private static boolean isScheduler(int scheduler) {
        return scheduler >= 0 && scheduler < SCHEDULERS;
    }

    private static boolean isDesk(int desk) {
        return desk >= 0 && desk < DESKS;
    }

    private static int orNone(int found) {
        return found == FAR ? NONE : found;
    }

    private Zone zoneAt(int i) {
        return i >= 0 && i < zoneCount && i < ZONES ? zones[i] : null;
    }

    private Job jobAt(int i) {
        return i >= 0 && i < jobCount && i < JOBS ? jobs[i] : null;
    }

    private Register registerOf(int scheduler, int job) {
        return isScheduler(scheduler) && jobAt(job) != null ? registers[scheduler * JOBS + job] : null;
    }

    /** Whether one JOB is another, or waits for it by some steps. */
    private boolean reaches(int from, int to) {
        int reached = 1 << from;
        for (int step = 0; step < JOBS; step++) {
            for (int i = 0; i < jobCount; i++) {
                Job passing = jobAt(i);
                if (passing != null && (reached >> i & 1) != 0) {
                    reached |= passing.awaited;
                }
            }
        }
        return (reached >> to & 1) != 0;
    }

    private int highestUpTo(int job) {
        int highest = -1;
        for (int s = 0; s < SCHEDULERS; s++) {
            Register register = registerOf(s, job);
            if (register != null) {
                highest = Math.max(highest, register.upTo);
            }
        }
        return highest;
    }

    private int runCount() {
        int runs = 0;
        for (int i = 0; i < registers.length; i++) {
            runs += registers[i].run.stage == NO_RUN ? 0 : 1;
        }
        return runs;
    }

    // ---- what letters do

    /** Answers whether a RUN has READ by it and has to DECIDE; callers do that, to keep the calls shallow. */
    private boolean handOver(Letter letter) {
        Job job = jobAt(letter.job);
        if (letter.kind == EFFECT) {
            handToDesk(letter, job);
            return false;
        }
        Register register = registerOf(letter.to, letter.job);
        if (job == null || register == null || schedulerDown[letter.to]) {
            return false;
        }
        switch (letter.kind) {
            case ASK: answerAsk(letter, register); break;
            case PROMISE: return register.run.reads(letter);
            case WRITE: answerWrite(letter, register); break;
            case WRITTEN: finish(letter, job, register.run); break;
            default: register.beRefused(letter); break;
        }
        return false;
    }

    private void handToDesk(Letter letter, Job job) {
        if (job == null || !isDesk(letter.to) || deskDown[letter.to]) {
            return;
        }
        if (!job.takes(letter.second, letter.ballot)) {
            refusedEffects++;
        }
    }

    private void answerAsk(Letter letter, Register register) {
        if (letter.ballot > register.promised) {
            register.promised = letter.ballot;
            reply(letter, PROMISE, register.accepted, register.upTo, register.guard);
        } else {
            reply(letter, REFUSE, register.promised, 0, 0);
        }
    }

    private void answerWrite(Letter letter, Register register) {
        if (letter.ballot >= register.promised) {
            register.promised = letter.ballot;
            register.accept(letter.ballot, letter.second, letter.guard);
            reply(letter, WRITTEN, 0, 0, 0);
        } else {
            reply(letter, REFUSE, register.promised, 0, 0);
        }
    }

    private void finish(Letter letter, Job job, Run run) {
        if (run.stage != WRITES || run.ballot != letter.ballot) {
            return;
        }
        if (run.passesOver) {
            job.timesPassed++;
        }
        if (run.minute != FAR) {
            Letter sent = letters.post(EFFECT, letter.to, letter.job % DESKS, letter.job);
            sent.say(run.guard, run.minute, 0, 0);
        }
        run.end();
    }

    private void decide(int scheduler, int number) {
        Register register = registerOf(scheduler, number);
        Job job = jobAt(number);
        if (register == null || job == null) {
            return;
        }
        Run run = register.run;
        int behind = run.upTo + 1;
        int first = job.rule.firstDue(behind, minuteNow);
        int from = Math.max(behind, minuteNow - job.latenessAllowed());
        int minute = job.mode == NEWEST_ALONE
                ? job.rule.lastDue(from, minuteNow) : job.rule.firstDue(from, minuteNow);
        job.unmet = minute == FAR ? 0 : unmetWaits(job, minute);
        if (job.unmet != 0 || first == FAR || job.paused || register.promised > run.ballot) {
            run.end();
            return;
        }
        run.claim(minute, minuteNow, first < minute);
        register.accept(run.ballot, run.upTo, run.guard);
        sendToOthers(WRITE, scheduler, number, run.ballot, run.upTo, run.guard);
    }

    /** Looks at each stretch of one offset by itself, as a LOCAL day can come back after a SHIFT. */
    private int unmetWaits(Job job, int minute) {
        int unmet = 0;
        for (int i = 0; i < jobCount; i++) {
            Job other = jobAt(i);
            if (other == null || (job.awaited >> i & 1) == 0) {
                continue;
            }
            Zone zone = other.rule.zone;
            int day = zone.dayOf(minute);
            if (other.didSomeOf(day)) {
                continue;
            }
            for (int k = 0; k < zone.stretchCount(); k++) {
                if (other.rule.firstDue(zone.firstOfDay(k, day), zone.lastOfDay(k, day)) != FAR) {
                    unmet |= 1 << i;
                }
            }
        }
        return unmet;
    }

    private void reply(Letter letter, int kind, int second, int upTo, int guard) {
        Letter answer = letters.post(kind, letter.to, letter.from, letter.job);
        answer.say(letter.ballot, second, upTo, guard);
    }

    private void sendToOthers(int kind, int from, int job, int ballot, int second, int guard) {
        for (int to = 0; to < SCHEDULERS; to++) {
            if (to != from) {
                Letter sent = letters.post(kind, from, to, job);
                sent.say(ballot, second, 0, guard);
            }
        }
    }

    /** Numbers in the order in which they came, up to a limit. */
    private static final class Row {
        private final int limit;
        private int[] items;
        private int size;

        Row(int limit) {
            this.limit = Math.max(limit, 1);
            this.items = new int[Math.min(this.limit, 8)];
        }

        int at(int i) {
            return i >= 0 && i < size && i < items.length ? items[i] : 0;
        }

        boolean has(int item) {
            for (int i = 0; i < size && i < items.length; i++) {
                if (items[i] == item) {
                    return true;
                }
            }
            return false;
        }

        boolean add(int item) {
            if (size >= limit) {
                return false;
            }
            if (size >= items.length) {
                items = Arrays.copyOf(items, Math.min(limit, 2 * size));
            }
            items[size] = item;
            size++;
            return true;
        }

        /** How many there are with one more; FULL. */
        int countWith(int item) {
            return add(item) ? size : FULL;
        }
    }

    /** Days and months, both counted from January 2000 on; right from 1901 to 2099. */
    private static final class Dates {
        private static final int DAYS = 1461, MONTHS = 48;
        private static final int WEEKDAY_OF_DAY_0 = 5;
        // The first days of the months of four years, a leap year ahead.
        private static final int[] STARTS = {
            0, 31, 60, 91, 121, 152, 182, 213, 244, 274, 305, 335,
            366, 397, 425, 456, 486, 517, 547, 578, 609, 639, 670, 700,
            731, 762, 790, 821, 851, 882, 912, 943, 974, 1004, 1035, 1065,
            1096, 1127, 1155, 1186, 1216, 1247, 1277, 1308, 1339, 1369, 1400, 1430};

        static int weekdayOf(int day) {
            return Math.floorMod(day + WEEKDAY_OF_DAY_0, 7);
        }

        static int monthOf(int day) {
            int rest = Math.floorMod(day, DAYS);
            int month = rest / 31;
            while (month + 1 < MONTHS && STARTS[month + 1] <= rest) {
                month++;
            }
            return Math.floorDiv(day, DAYS) * MONTHS + month;
        }

        static int startOf(int month) {
            return Math.floorDiv(month, MONTHS) * DAYS + STARTS[Math.floorMod(month, MONTHS)];
        }

        static int monthOfYear(int month) {
            return Math.floorMod(month, 12) + 1;
        }

        static int yearOf(int month) {
            return 2000 + Math.floorDiv(month, 12);
        }
    }

    /** A ZONE. Its MINUTES are cut into stretches of one offset each; the first one begins ahead of all SHIFTS. */
    private static final class Zone {
        // 20 HOLIDAYS and the weekends among them are fewer days than this.
        private static final int LONGEST_REST = 60;

        private final Row starts = new Row(SHIFTS + 1);
        private final Row offsets = new Row(SHIFTS + 1);
        private final Row holidays = new Row(HOLIDAYS);
        private final int[] movedTo = new int[HOLIDAYS];

        Zone() {
            starts.add(0);
            offsets.add(0);
        }

        int stretchCount() {
            return starts.size;
        }

        int shiftCount() {
            return starts.size - 1;
        }

        int latestShift() {
            return shiftCount() == 0 ? -1 : starts.at(starts.size - 1);
        }

        boolean addShift(int minute, int offset) {
            return starts.add(minute) && offsets.add(offset);
        }

        private int endOf(int k) {
            return k + 1 < starts.size ? starts.at(k + 1) - 1 : LAST_MINUTE;
        }

        int localOf(int minute) {
            int offset = 0;
            for (int k = 0; k < starts.size && starts.at(k) <= minute; k++) {
                offset = offsets.at(k);
            }
            return minute + offset;
        }

        int dayOf(int minute) {
            return Math.floorDiv(localOf(minute), MINUTES_A_DAY);
        }

        /** THE MOMENT; FAR. */
        int momentOf(int local) {
            if (local < localOf(0)) {
                return FAR;
            }
            for (int k = 0; k < starts.size; k++) {
                long minute = Math.max((long) starts.at(k), (long) local - offsets.at(k));
                if (minute <= endOf(k)) {
                    return (int) minute;
                }
            }
            return FAR;
        }

        /** The highest LOCAL minute whose MOMENT is below a MINUTE. */
        int highestBefore(int minute) {
            int highest = localOf(0) - 1;
            for (int k = 0; k < starts.size; k++) {
                int last = Math.min(endOf(k), minute - 1);
                if (last >= starts.at(k)) {
                    highest = Math.max(highest, last + offsets.at(k));
                }
            }
            return highest;
        }

        int firstOfDay(int k, int day) {
            return Math.max(starts.at(k), day * MINUTES_A_DAY - offsets.at(k));
        }

        int lastOfDay(int k, int day) {
            return Math.min(endOf(k), day * MINUTES_A_DAY + MINUTES_A_DAY - 1 - offsets.at(k));
        }

        boolean isHoliday(int day) {
            return holidays.has(day);
        }

        boolean isWorking(int day) {
            return Dates.weekdayOf(day) < 5 && !isHoliday(day);
        }

        boolean addHoliday(int day) {
            if (!holidays.add(day)) {
                return false;
            }
            for (int k = 0; k < holidays.size && k < HOLIDAYS; k++) {
                movedTo[k] = workingAfter(holidays.at(k));
            }
            return true;
        }

        private int workingAfter(int day) {
            for (int later = day + 1; later <= day + LONGEST_REST; later++) {
                if (isWorking(later)) {
                    return later;
                }
            }
            return FAR;
        }

        int movedFrom(int k) {
            return k >= 0 && k < HOLIDAYS ? movedTo[k] : FAR;
        }

        /** The HOLIDAYS among the 31 days from a month's start on, as bits 1 .. 31. */
        long holidayBits(int start) {
            long bits = 0;
            for (int k = 0; k < holidays.size; k++) {
                int behind = holidays.at(k) - start;
                if (behind >= 0 && behind < 31) {
                    bits |= 1L << (behind + 1);
                }
            }
            return bits;
        }
    }

    /** When a JOB is DUE. Days of a month are bits 1 .. 31 here, so that a whole month is looked at in one step. */
    private static final class Rule {
        private static final long[] ALL_BITS = {
            0xFFFFFFFFFFFFFFFL, 0xFFFFFFL, 0xFFFFFFFEL, 0x1FFEL, 0x7FL};
        private static final long EVERY_SEVENTH = 1L << 1 | 1L << 8 | 1L << 15 | 1L << 22 | 1L << 29;
        // 40 years, and a month on each side, are fewer.
        private static final int MOST_MONTHS = 500;

        private final Zone zone;
        private final long[] masks = new long[MASKS];
        private final Row nthWeekdays = new Row(NTHS);
        private final Row nthNumbers = new Row(NTHS);
        private final Row exceptions = new Row(EXCEPTIONS);
        private final Row extras = new Row(EXTRAS);
        private int way = WAY_NONE;

        Rule(Zone zone) {
            this.zone = zone;
        }

        /** How many bits the MASK has then; BAD. */
        int setMask(int field, long bits) {
            if (field < 0 || field >= MASKS) {
                return BAD;
            }
            masks[field] = bits & ALL_BITS[field];
            return Long.bitCount(masks[field]);
        }

        int addNth(int weekday, int n) {
            nthNumbers.add(n);
            return nthWeekdays.countWith(weekday);
        }

        int addException(int minute) {
            return exceptions.countWith(minute);
        }

        int addExtra(int minute) {
            return extras.countWith(minute);
        }

        /** The first DUE MINUTE of from .. to; FAR. */
        int firstDue(int from, int to) {
            if (from > to) {
                return FAR;
            }
            int found = FAR;
            for (int k = 0; k < extras.size; k++) {
                if (extras.at(k) >= from && extras.at(k) <= to) {
                    found = Math.min(found, extras.at(k));
                }
            }
            if (isEmpty()) {
                return found;
            }
            int last = zone.highestBefore(to + 1);
            int at = from;
            // Each turn but the last one meets another EXCEPTION.
            for (int turn = 0; turn <= EXCEPTIONS; turn++) {
                int local = nextLocal(zone.highestBefore(at) + 1, last);
                if (local == FAR) {
                    return found;
                }
                int minute = zone.momentOf(local);
                if (!exceptions.has(minute)) {
                    return Math.min(found, minute);
                }
                at = minute + 1;
            }
            return found;
        }

        /** The last DUE MINUTE of from .. to; FAR. */
        int lastDue(int from, int to) {
            int last = firstDue(from, to);
            int high = to;
            // It halves what lies between a DUE MINUTE and one above which there is none.
            for (int turn = 0; turn < 32 && last < high; turn++) {
                int middle = last + (high - last + 1) / 2;
                int later = firstDue(middle, high);
                if (later == FAR) {
                    high = middle - 1;
                } else {
                    last = later;
                }
            }
            return last;
        }

        private boolean isEmpty() {
            boolean noDay = masks[DAY_MASK] == 0 || masks[WEEKDAY_MASK] == 0;
            return masks[MINUTE_MASK] == 0 || masks[HOUR_MASK] == 0 || masks[MONTH_MASK] == 0
                    || noDay && nthWeekdays.size == 0;
        }

        /** The first LOCAL minute of from .. to that the MASKS and days name; FAR. */
        private int nextLocal(int from, int to) {
            int day = Math.floorDiv(from, MINUTES_A_DAY);
            int lastDay = Math.floorDiv(to, MINUTES_A_DAY);
            int time = nextTime(from - day * MINUTES_A_DAY);
            int firstDay = time == FAR ? day + 1 : day;
            int on = nextFitting(firstDay, lastDay);
            if (way == WAY_MOVE) {
                on = Math.min(on, nextMoved(firstDay));
            }
            if (on > lastDay) {
                return FAR;
            }
            int local = on * MINUTES_A_DAY + (on == day ? time : nextTime(0));
            return local <= to ? local : FAR;
        }

        /** The first minute of a day, not below one, that the MASKS name; FAR. */
        private int nextTime(int from) {
            int hour = from / 60;
            long minutes = notBelow(masks[MINUTE_MASK], from % 60);
            if ((masks[HOUR_MASK] >>> hour & 1) != 0 && minutes != 0) {
                return hour * 60 + lowest(minutes);
            }
            long hours = notBelow(masks[HOUR_MASK], hour + 1);
            if (hours == 0 || masks[MINUTE_MASK] == 0) {
                return FAR;
            }
            return lowest(hours) * 60 + lowest(masks[MINUTE_MASK]);
        }

        /** The first day of from .. to that is ON by itself; it may answer a later one, or FAR, for none. */
        private int nextFitting(int from, int to) {
            int month = Dates.monthOf(from);
            int start = Dates.startOf(month);
            for (int turn = 0; turn < MOST_MONTHS && start <= to; turn++) {
                int next = Dates.startOf(month + 1);
                long bits = fitting(month, start, next - start);
                if (bits != 0 && way != WAY_NONE) {
                    bits &= ~zone.holidayBits(start);
                }
                if (start < from) {
                    bits = notBelow(bits, from - start + 1);
                }
                if (bits != 0) {
                    return start + lowest(bits) - 1;
                }
                month++;
                start = next;
            }
            return FAR;
        }

        /** The first day, not below one, to which a HOLIDAY that FITS is moved; FAR. */
        private int nextMoved(int from) {
            int found = FAR;
            for (int k = 0; k < zone.holidays.size; k++) {
                int target = zone.movedFrom(k);
                if (target < from || target >= found) {
                    continue;
                }
                int month = Dates.monthOf(zone.holidays.at(k));
                int start = Dates.startOf(month);
                long bits = fitting(month, start, Dates.startOf(month + 1) - start);
                if ((bits >>> (zone.holidays.at(k) - start + 1) & 1) != 0) {
                    found = target;
                }
            }
            return found;
        }

        /** The days of a month that FIT. */
        private long fitting(int month, int start, int length) {
            if ((masks[MONTH_MASK] >>> (Math.floorMod(month, 12) + 1) & 1) == 0) {
                return 0;
            }
            int firstWeekday = Math.floorMod(start + Dates.WEEKDAY_OF_DAY_0, 7);
            long bits = 0;
            for (int behind = 0; behind < 7; behind++) {
                if ((masks[WEEKDAY_MASK] >>> ((firstWeekday + behind) % 7) & 1) != 0) {
                    bits |= EVERY_SEVENTH << behind;
                }
            }
            bits &= masks[DAY_MASK];
            for (int k = 0; k < nthWeekdays.size; k++) {
                int first = (nthWeekdays.at(k) + 7 - firstWeekday) % 7 + 1;
                int n = nthNumbers.at(k);
                if (n == LAST_OF_MONTH) {
                    n = first + 28 <= length ? 5 : 4;
                }
                bits |= 1L << (first + 7 * (n - 1));
            }
            return bits & ((2L << length) - 1);
        }

        private static long notBelow(long bits, int bit) {
            return bits >>> bit << bit;
        }

        private static int lowest(long bits) {
            return Long.bitCount((bits & -bits) - 1);
        }
    }

    /** A JOB, and what its DESK knows of it. */
    private static final class Job {
        private final Rule rule;
        private final Row minutes = new Row(EFFECTS);
        private final Row guards = new Row(EFFECTS);
        private int mode;
        private int lateness;
        private boolean paused;
        private int awaited;
        private int unmet;
        private int timesPassed;

        Job(Rule rule) {
            this.rule = rule;
        }

        int latenessAllowed() {
            return mode == NO_CATCHING_UP ? 0 : lateness;
        }

        int latestMinute() {
            return minutes.size == 0 ? -1 : minutes.at(minutes.size - 1);
        }

        boolean takes(int minute, int guard) {
            int latestGuard = guards.at(guards.size - 1);
            if (guard <= latestGuard || minute <= latestMinute()) {
                return false;
            }
            return minutes.add(minute) && guards.add(guard);
        }

        boolean didSomeOf(int day) {
            for (int i = 0; i < minutes.size; i++) {
                if (rule.zone.dayOf(minutes.at(i)) == day) {
                    return true;
                }
            }
            return false;
        }
    }

    /** What a SCHEDULER holds of a JOB. */
    private static final class Register {
        private final Run run = new Run();
        private int promised;
        private int accepted;
        private int upTo = -1;
        private int guard;
        // The ballots it asked by are never above the PROMISED one, so of those SEEN only these are held apart.
        private int refusedBy;

        int beginRun(int scheduler) {
            int seen = Math.max(promised, refusedBy);
            int n = Math.max(1, Math.floorDiv(seen - scheduler, 3) + 1);
            promised = 3 * n + scheduler;
            run.begin(promised, accepted, upTo, guard);
            return promised;
        }

        void accept(int ballot, int newUpTo, int newGuard) {
            accepted = ballot;
            upTo = newUpTo;
            guard = newGuard;
        }

        void beRefused(Letter letter) {
            refusedBy = Math.max(refusedBy, letter.second);
            if (run.stage != NO_RUN && run.ballot == letter.ballot) {
                run.end();
            }
        }

        void forget() {
            refusedBy = 0;
            run.end();
        }
    }

    /** A RUN. While it asks, ACCEPTED ballot and VALUE are its own answer; then the VALUE is what it writes. */
    private static final class Run {
        private int stage = NO_RUN;
        private int ballot;
        private int accepted;
        private int upTo;
        private int guard;
        private int minute = FAR;
        private boolean passesOver;

        void begin(int newBallot, int ownAccepted, int ownUpTo, int ownGuard) {
            stage = ASKS;
            ballot = newBallot;
            accepted = ownAccepted;
            upTo = ownUpTo;
            guard = ownGuard;
            minute = FAR;
        }

        boolean reads(Letter promise) {
            if (stage != ASKS || ballot != promise.ballot) {
                return false;
            }
            if (promise.second > accepted) {
                upTo = promise.upTo;
                guard = promise.guard;
            }
            return true;
        }

        void claim(int newMinute, int now, boolean over) {
            stage = WRITES;
            minute = newMinute;
            passesOver = over;
            if (newMinute == FAR) {
                upTo = now;
            } else {
                upTo = newMinute;
                guard++;
            }
        }

        void end() {
            stage = NO_RUN;
            ballot = 0;
            minute = FAR;
        }
    }

    /** A LETTER; its numbers are those that letter() tells, so one that its kind lacks is 0. */
    private static final class Letter {
        private int kind;
        private int from;
        private int to;
        private int job;
        private int ballot;
        private int second;
        private int upTo;
        private int guard;

        void address(int newKind, int newFrom, int newTo, int newJob) {
            kind = newKind;
            from = newFrom;
            to = newTo;
            job = newJob;
        }

        void say(int newBallot, int newSecond, int newUpTo, int newGuard) {
            ballot = newBallot;
            second = newSecond;
            upTo = newUpTo;
            guard = newGuard;
        }
    }

    /** The LETTERS that wait. Their objects are made once and used again. */
    private static final class Letters {
        private final Letter[] row = new Letter[LETTERS];
        // Written on when there is no room, so that a sender need not ask.
        private final Letter scrap = new Letter();
        // The one taken last keeps its words until the next is taken, while answers are put into the row.
        private Letter taken = new Letter();
        private int size;
        private int lostForRoom;

        Letters() {
            for (int i = 0; i < LETTERS; i++) {
                row[i] = new Letter();
            }
        }

        Letter at(int i) {
            return i >= 0 && i < size && i < LETTERS ? row[i] : null;
        }

        Letter post(int kind, int from, int to, int job) {
            if (size >= LETTERS) {
                lostForRoom++;
                return scrap;
            }
            Letter sent = row[size];
            size++;
            sent.address(kind, from, to, job);
            return sent;
        }

        Letter take(int i) {
            Letter found = at(i);
            if (found == null) {
                return null;
            }
            for (int k = i; k + 1 < size && k + 1 < LETTERS; k++) {
                row[k] = row[k + 1];
            }
            size--;
            row[size] = taken;
            taken = found;
            return found;
        }
    }
}
