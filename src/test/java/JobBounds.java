/** Part 2 of the terms, and promises 8 to 18. */
final class JobBounds extends Bounds {
    private static final int[] LOWEST_BIT = {0, 0, 1, 1, 0}, HIGHEST_BIT = {59, 23, 31, 12, 6};
    private static final long HIGHEST_OF_ALL = Long.MIN_VALUE;

    @Override
    void all() {
        jobsAtMost();
        masks();
        nths();
        exceptionsAtMost();
        ways();
        fitting();
        on();
        offThroughTheYear();
        moved();
        movedNths();
        movedAtTheEnds();
        dueMoments();
        extras();
        catchingUp();
        othersAtMost();
        job();
        mask();
        nth();
        except();
        onHoliday();
        catchUp();
        after();
        afterRefusals();
        pause();
        due();
        between();
        runNow();
        runNowRefusals();
    }

    /** Whether a JOB is DUE on a day, in a ZONE without SHIFTS. */
    private static int onDay(TickKeeper x, int job, int day) {
        return x.between(job, day * DAY, day * DAY + DAY - 1, 0) == NONE ? 0 : 1;
    }

    /** A JOB that is DUE at 0:00 on days that FIT by MASKS of one bit each. */
    private static TickKeeper midnights(int dayOfMonth, int month) {
        TickKeeper x = jobs(1);
        dailyAt(x, 0, 0);
        x.mask(0, 2, 1L << dayOfMonth);
        x.mask(0, 3, 1L << month);
        return x;
    }

    // ---- terms

    private void jobsAtMost() {
        sentence(TERMS, "2 JOBS (12 at most), each of a ZONE,");
        due("the twelfth", jobs(11).job(0), 11);
        refused("a 13th", () -> jobs(12), FULL, x -> x.job(0));
        TickKeeper x = zones(3);
        for (int z = 0; z < 3; z++) {
            x.shift(z, 0, z * 100);
            x.job(z);
            dailyAt(x, z, 1000);
        }
        for (int z = 0; z < 3; z++) due("of zone " + z, x.due(z, 0), 1000 - z * 100);
    }

    private void masks() {
        sentence(TERMS, "have MASKS, bits of: 0 minutes 0 .. 59, 1 hours 0 .. 23, 2 days of the month 1 .. 31, 3 months 1 .. 12, 4 weekdays 0 .. 6 (0 Monday),");
        for (int field = 0; field < 5; field++) {
            TickKeeper x = jobs(1);
            for (int bit = 0; bit < 64; bit++) {
                boolean has = bit >= LOWEST_BIT[field] && bit <= HIGHEST_BIT[field];
                due("mask " + field + ", bit " + bit, x.mask(0, field, 1L << bit), has ? 1 : 0);
            }
        }
        TickKeeper x = jobs(1);
        daily(x, 0, 1L, 1L);
        due("0:00", x.due(0, 0), 0);
        daily(x, 0, 1L << 59, 1L << 23);
        due("23:59", x.due(0, 0), DAY - 1);
        daily(x, 0, 1L << 59, 1L);
        due("0:59", x.due(0, 0), 59);
        daily(x, 0, 1L, 1L << 23);
        due("23:00", x.due(0, 0), 23 * 60);
        due("a 1st", midnights(1, 1).due(0, 0), 0);
        due("a 31st", midnights(31, 1).due(0, 0), 30 * DAY);
        due("of December", midnights(31, 12).due(0, 0), 365 * DAY);
        due("a month without a 31st", midnights(31, 4).due(0, 0), NONE);
        due("February 29, 2000", midnights(29, 2).due(0, 0), 59 * DAY);
        due("February 29, 2004", midnights(29, 2).due(0, 59 * DAY + 1), 1520 * DAY);
        due("February 30", midnights(30, 2).due(0, 0), NONE);
        dailyAt(x, 0, 0);
        for (int weekday = 0; weekday < 7; weekday++) {
            x.mask(0, 4, 1L << weekday);
            for (int day = (weekday + 2) % 7; day < 120; day += 7) {
                due("weekday " + weekday, x.due(0, Math.max(0, day - 6) * DAY), day * DAY);
            }
        }
        sentence(TERMS, "nothing in them at first;");
        for (int field = 0; field < 5; field++) {
            TickKeeper y = jobs(1);
            for (int f = 0; f < 5; f++) if (f != field) y.mask(0, f, -1L);
            due("all but mask " + field, y.due(0, 0), NONE);
            y.mask(0, field, -1L);
            due("all", y.due(0, 0), 0);
        }
    }

    /** The first MINUTE of such a weekday of a month, as a day. */
    private static int nthDay(int month, int weekday, int n, int fromDay) {
        TickKeeper x = jobs(1);
        x.mask(0, 0, 1L);
        x.mask(0, 1, 1L);
        x.mask(0, 3, 1L << month);
        x.nth(0, weekday, n);
        return x.due(0, fromDay * DAY) / DAY;
    }

    private static TickKeeper threeNths() {
        TickKeeper x = jobs(2);
        daily(x, 0, 1L, 1L);
        x.mask(0, 4, 0L);
        for (int n = 1; n <= 3; n++) x.nth(0, n, n);
        return x;
    }

    private void nths() {
        sentence(TERMS, "NTHS (3 at most): the n-th (1 .. 5) or last (6) such weekday of a month;");
        // January 2000 begins with a Saturday (5), so its weeks by number end with a Friday (4).
        for (int n = 1; n <= 4; n++) {
            due("the first day of week " + n, nthDay(1, 5, n, 0), 7 * (n - 1));
            due("the last day of week " + n, nthDay(1, 4, n, 0), 7 * n - 1);
        }
        due("the fifth Saturday, a 29th", nthDay(1, 5, 5, 0), 28);
        due("the fifth Monday, a 31st", nthDay(1, 0, 5, 0), 30);
        due("no fifth Tuesday but in 2001", nthDay(1, 1, 5, 0), 366 + 29);
        due("February 29 is a fifth", nthDay(2, 1, 5, 0), 59);
        due("no other for 28 years", nthDay(2, 1, 5, 60), 10286);
        due("the last one is the fifth, on a 31st of 31 days", nthDay(1, 0, 6, 0), 30);
        due("the last one is the fifth, on a 29th of 31 days", nthDay(1, 5, 6, 0), 28);
        due("the last one is the fourth", nthDay(1, 1, 6, 0), 24);
        due("the last one is the fifth, of 29 days", nthDay(2, 1, 6, 0), 59);
        due("the last one is the fourth, of 29 days", nthDay(2, 2, 6, 0), 53);
        due("the last one is the fourth, on a 28th of 28 days", nthDay(2, 2, 6, 60), 424);
        due("the last one is the fourth, on a 22nd of 28 days", nthDay(2, 3, 6, 60), 418);
        due("the first of three", threeNths().due(0, 0), 3 * DAY);
        due("the second", threeNths().due(0, 4 * DAY), 11 * DAY);
        due("the third", threeNths().due(0, 12 * DAY), 19 * DAY);
        refused("a fourth", JobBounds::threeNths, FULL, x -> x.nth(0, 0, 1));
        due("another job's first", threeNths().nth(1, 0, 1), 1);
    }

    private static TickKeeper sixExceptions() {
        TickKeeper x = hourly(2);
        for (int n = 0; n < 6; n++) x.except(0, 60 * n);
        return x;
    }

    private void exceptionsAtMost() {
        sentence(TERMS, "EXCEPTIONS (6 at most), MINUTES;");
        due("all six", sixExceptions().due(0, 0), 360);
        due("another job's are its own", sixExceptions().due(1, 0), 0);
        refused("a seventh", JobBounds::sixExceptions, FULL, x -> x.except(0, 360));
        TickKeeper beside = jobs(1);
        daily(beside, 0, -1L, -1L);
        for (int n = 0; n < 6; n++) {
            due("the first that is not excepted", beside.due(0, 0), n);
            beside.except(0, n);
        }
        due("six side by side", beside.due(0, 0), 6);
        // An EXCEPTION is a MINUTE, no LOCAL minute.
        TickKeeper x = jobs(1);
        x.shift(0, 0, 60);
        dailyAt(x, 0, 120);
        x.except(0, 120);
        due("LOCAL minute 120 is due", x.due(0, 0), 60);
        x.except(0, 60);
        due("MINUTE 60 is not", x.due(0, 0), 60 + DAY);
    }

    private void ways() {
        sentence(TERMS, "a HOLIDAY's way: 0 none, 1 off, 2 move.");
        // January 7, 2000 is a Friday.
        int[][] dueDays = {{6, 372}, {372, 737}, {9, 372}};
        for (int way = 0; way < 3; way++) {
            TickKeeper x = midnights(7, 1);
            x.holiday(0, 6);
            x.onHoliday(0, way);
            due("way " + way, x.due(0, 0), dueDays[way][0] * DAY);
            due("way " + way + ", the next", x.due(0, dueDays[way][0] * DAY + 1), dueDays[way][1] * DAY);
        }
        TickKeeper x = midnights(7, 1);
        x.holiday(0, 6);
        due("0 at first", x.due(0, 0), 6 * DAY);
    }

    private void fitting() {
        sentence(TERMS, "A LOCAL day FITS, if its month is in the MASK, and its day of the month and weekday are, too, or it is one of the NTHS.");
        // Day 2 is Monday, January 3, 2000. Bits of: day of the month, month, weekday; an NTH; whether it FITS.
        long[][] cases = {{3, 1, 0, 0, 1}, {2, 1, 0, 0, 0}, {4, 1, 0, 0, 0}, {3, 2, 0, 0, 0}, {3, 12, 0, 0, 0}, {3, 1, 1, 0, 0},
            {3, 1, 6, 0, 0}, {4, 1, 1, 1, 1}, {3, 1, 1, 1, 1}, {4, 1, 0, 1, 1}, {3, 1, 0, 1, 1}, {3, 2, 0, 1, 0}, {4, 12, 1, 1, 0}};
        for (long[] c : cases) {
            TickKeeper x = midnights((int) c[0], (int) c[1]);
            x.mask(0, 4, 1L << c[2]);
            if (c[3] == 1) x.nth(0, 0, 1);
            due("day of the month " + c[0] + ", month " + c[1] + ", weekday " + c[2] + ", nth " + c[3], onDay(x, 0, 2), (int) c[4]);
        }
        TickKeeper x = jobs(1);
        dailyAt(x, 0, 0);
        x.mask(0, 2, 0L);
        x.nth(0, 0, 1);
        due("an nth without days of the month", onDay(x, 0, 2), 1);
        due("the second such weekday", onDay(x, 0, 9), 0);
        x.mask(0, 4, 0L);
        due("nor weekdays", onDay(x, 0, 2), 1);
        x.mask(0, 3, 0L);
        due("but not without months", onDay(x, 0, 2), 0);
    }

    private void on() {
        sentence(TERMS, "It is ON: if it FITS and is no HOLIDAY, or the way is 0;");
        for (int way = 0; way < 3; way++) {
            TickKeeper x = midnights(7, 1);
            x.onHoliday(0, way);
            due("it fits and is no holiday, way " + way, onDay(x, 0, 6), 1);
            due("it fits not, way " + way, onDay(x, 0, 7), 0);
            x.holiday(0, 6);
            x.holiday(0, 5);
            due("it fits and is a holiday, way " + way, onDay(x, 0, 6), way == 0 ? 1 : 0);
            due("a holiday that fits not, way " + way, onDay(x, 0, 5), 0);
        }
    }

    /** HOLIDAYS at the ends of months: they alone are off. */
    private void offThroughTheYear() {
        TickKeeper x = jobs(1);
        dailyAt(x, 0, 0);
        x.onHoliday(0, 1);
        int[] holidays = {0, 30, 31, 59, 60, 90, 91, 120, 121, 151, 365, 366};
        for (int day : holidays) x.holiday(0, day);
        int next = 0;
        for (int day = 0; day < 400; day++) {
            boolean off = next < holidays.length && holidays[next] == day;
            if (off) next++;
            due("day " + day, onDay(x, 0, day), off ? 0 : 1);
        }
    }

    /** A JOB with way 2 that FITS one day of January, and HOLIDAYS. */
    private static TickKeeper moving(int dayOfMonth, int... holidays) {
        TickKeeper x = midnights(dayOfMonth, 1);
        x.onHoliday(0, 2);
        for (int day : holidays) x.holiday(0, day);
        return x;
    }

    private void moved() {
        sentence(TERMS, "or, with way 2, it is a WORKING day, and one of the days that are no WORKING days right ahead of it (all up to the next WORKING day back) is a HOLIDAY that FITS.");
        TickKeeper friday = moving(7, 6);
        int[] on = {0, 0, 0, 0, 1, 0};
        for (int day = 5; day <= 10; day++) due("Friday to Monday: day " + day, onDay(friday, 0, day), on[day - 5]);
        TickKeeper thursday = moving(6, 5);
        due("a working day back stops it: Friday", onDay(thursday, 0, 6), 1);
        due("a working day back stops it: Monday", onDay(thursday, 0, 9), 0);
        TickKeeper saturday = moving(8);
        due("a Saturday that fits and is no holiday is on", onDay(saturday, 0, 7), 1);
        due("and is not moved", onDay(saturday, 0, 9), 0);
        saturday.holiday(0, 8);
        due("nor by a holiday behind it", onDay(saturday, 0, 9), 0);
        saturday.holiday(0, 7);
        due("a Saturday that is a holiday is off", onDay(saturday, 0, 7), 0);
        due("not moved to a Sunday", onDay(saturday, 0, 8), 0);
        due("but to Monday", onDay(saturday, 0, 9), 1);
        int[] twenty = new int[20];
        for (int n = 0; n < 20; n++) twenty[n] = 2 + n / 5 * 7 + n % 5;
        for (int dayOfMonth : new int[] {3, 7, 28}) {
            TickKeeper x = moving(dayOfMonth, twenty);
            for (int day = 0; day <= 32; day++) due("over four weeks: day " + day, onDay(x, 0, day), day == 30 ? 1 : 0);
        }
        TickKeeper one = moving(2, twenty);
        due("the Sunday ahead of them is on", onDay(one, 0, 1), 1);
        due("and is not moved", onDay(one, 0, 30), 0);
        TickKeeper into = moving(31, 30);
        due("into a month that is not in the mask", onDay(into, 0, 31), 1);
        due("and not on the next day", onDay(into, 0, 32), 0);
        int[][] orders = {{6, 20}, {20, 6}};
        for (int[] order : orders) {
            TickKeeper x = moving(7, order);
            x.mask(0, 2, 1L << 7 | 1L << 21);
            due("two are moved: the first", x.due(0, 0), 9 * DAY);
            due("two are moved: the second", x.due(0, 9 * DAY + 1), 23 * DAY);
        }
        for (int way = 0; way < 2; way++) {
            TickKeeper x = moving(7, 6);
            x.onHoliday(0, way);
            due("not moved, way " + way, onDay(x, 0, 9), 0);
        }
        TickKeeper both = moving(7, 6);
        both.mask(0, 2, 1L << 7 | 1L << 10);
        due("to a day that fits", both.due(0, 8 * DAY), 9 * DAY);
        due("it is on once", both.due(0, 9 * DAY + 1), (366 + 6) * DAY);
    }

    /** The last Monday of January 2000, a fifth, and the last Thursday, a fourth. */
    private void movedNths() {
        int[][] cases = {{0, 30, 31}, {3, 26, 27}};
        for (int[] c : cases) {
            TickKeeper x = moving(1, c[1]);
            x.mask(0, 2, 0L);
            x.nth(0, c[0], 6);
            due("the last weekday " + c[0] + " is moved", x.due(0, 0), c[2] * DAY);
        }
    }

    private void movedAtTheEnds() {
        due("the first day, a Saturday", moving(1, 0).due(0, 0), 2 * DAY);
        due("the second day, a Sunday", moving(2, 1).due(0, 0), 2 * DAY);
        for (int dayOfMonth : new int[] {29, 30, 31}) {
            TickKeeper x = midnights(dayOfMonth, 12);
            x.onHoliday(0, 2);
            x.holiday(0, 14578 + dayOfMonth);
            due("December " + dayOfMonth + ", 2039", x.due(0, 14300 * DAY), dayOfMonth == 29 ? 14608 * DAY : NONE);
        }
        TickKeeper x = moving(1, 0);
        x.shift(0, 0, 840);
        due("the first day, a part of which lies ahead of MINUTE 0", x.due(0, 0), 2 * DAY - 840);
    }

    private void dueMoments() {
        sentence(TERMS, "DUE are THE MOMENTS of all LOCAL minutes of days that are ON whose hour and minute are in the MASKS, but for EXCEPTIONS;");
        TickKeeper x = jobs(1);
        dailyAt(x, 0, 630);
        x.shift(0, 600, 60);
        due("a LOCAL minute that is left out", x.due(0, 0), 600);
        due("is due there alone", x.due(0, 601), 630 - 60 + DAY);
        x.except(0, 600);
        due("unless it is excepted", x.due(0, 0), 630 - 60 + DAY);
        TickKeeper first = jobs(1);
        dailyAt(first, 0, 600);
        first.shift(0, 600, 60);
        due("the first left out", first.due(0, 0), 600);
        TickKeeper last = jobs(1);
        dailyAt(last, 0, 659);
        last.shift(0, 600, 60);
        due("the last left out", last.due(0, 0), 600);
        last.mask(0, 0, -1L);
        due("many fall on one minute", last.due(0, 0), 600);
        due("the next is of the next day", last.due(0, 601), DAY + 600 - 60);
        TickKeeper twice = jobs(1);
        dailyAt(twice, 0, 570);
        twice.shift(0, 600, -60);
        due("told twice: the first time", twice.due(0, 0), 570);
        due("not the second time", twice.due(0, 571), DAY + 570 + 60);
        TickKeeper back = jobs(1);
        dailyAt(back, 0, DAY - 1);
        back.shift(0, LAST, -60);
        due("later than all: none", back.due(0, LAST - DAY + 1), NONE);
        due("the day ahead has one", back.due(0, LAST - DAY), LAST - DAY);
        TickKeeper ahead = jobs(1);
        ahead.shift(0, 0, 60);
        dailyAt(ahead, 0, 59);
        due("below MINUTE 0's: none on that day", ahead.due(0, 0), DAY - 1);
        dailyAt(ahead, 0, 60);
        due("MINUTE 0's", ahead.due(0, 0), 0);
        TickKeeper off = jobs(1);
        dailyAt(off, 0, 30);
        off.holiday(0, 1);
        off.onHoliday(0, 1);
        off.shift(0, DAY - 1, 720);
        due("a minute of a holiday that is left out is off", off.due(0, 31), 2 * DAY + 30 - 720);
    }

    /** Eight EXTRAS, each of them EFFECTED; NOW is the last of them. */
    private static TickKeeper eightExtras() {
        TickKeeper x = jobs(2);
        for (int n = 1; n <= 8; n++) {
            x.now(10 * n);
            x.runNow(0);
            wakeAndFlow(x, 0);
        }
        return x;
    }

    private static TickKeeper eightExtrasAndLater() {
        TickKeeper x = eightExtras();
        x.now(81);
        return x;
    }

    private void extras() {
        sentence(TERMS, "and EXTRAS (8 at most), which runNow() told.");
        TickKeeper x = eightExtras();
        due("eight were done", x.effects(0), 8);
        for (int n = 1; n <= 8; n++) due("extra " + n, x.due(0, 10 * n - 9), 10 * n);
        due("no more", x.due(0, 81), NONE);
        refused("a ninth", JobBounds::eightExtrasAndLater, FULL, k -> k.runNow(0));
        due("another job's first", eightExtrasAndLater().runNow(1), 1);
        TickKeeper y = hourlyAt(1, 30);
        wakeAndFlow(y, 0);
        y.except(0, 30);
        due("an extra", y.runNow(0), 1);
        due("is due in spite of an exception", y.due(0, 1), 30);
        due("the rules' minute behind it is due, too", y.due(0, 31), 60);
        due("the rules' minute ahead of it is due, too", y.due(0, 0), 0);
        TickKeeper last = jobs(1);
        last.now(LAST);
        due("the last minute", last.runNow(0), 1);
        due("is due", last.due(0, 0), LAST);
    }

    private void catchingUp() {
        sentence(TERMS, "A JOB's catching up: 0 ALL, 1 NEWEST, 2 NONE, with a LATENESS (0 .. 1440; at first 0, 0).");
        // mode, lateness, what is claimed at MINUTE 130 of 0, 60, 120
        int[][] cases = {{0, 0, NONE}, {0, 9, NONE}, {0, 10, 120}, {0, 69, 120}, {0, 70, 60}, {0, 129, 60}, {0, 130, 0},
            {0, 1440, 0}, {1, 0, NONE}, {1, 9, NONE}, {1, 10, 120}, {1, 1440, 120}, {2, 0, NONE}, {2, 1440, NONE}};
        for (int[] c : cases) {
            TickKeeper x = hourlyAt(1, 130);
            x.catchUp(0, c[0], c[1]);
            wakeAndFlow(x, 0);
            due("mode " + c[0] + ", lateness " + c[1], x.effect(0, 0, 0), c[2]);
        }
        for (int now : new int[] {59, 60, 61}) {
            TickKeeper x = jobs(1);
            dailyAt(x, 0, 60);
            x.now(now);
            wakeAndFlow(x, 0);
            due("at first nothing late, at " + now, x.effects(0), now == 60 ? 1 : 0);
        }
        TickKeeper x = jobs(1);
        daily(x, 0, 1L, -1L);
        x.catchUp(0, ALL, 60);
        x.now(60);
        wakeAndFlow(x, 0);
        due("all: the first of two", x.effect(0, 0, 0), 0);
        wakeAndFlow(x, 0);
        due("then the second", x.effect(0, 1, 0), 60);
        TickKeeper dayLate = jobs(1);
        dailyAt(dayLate, 0, 60);
        dayLate.mask(0, 4, 1L << 5);
        dayLate.catchUp(0, ALL, DAY);
        dayLate.now(60 + DAY);
        wakeAndFlow(dayLate, 0);
        due("a day late", dayLate.effect(0, 0, 0), 60);
    }

    /** JOB 0 waits for 1, 2 and 3. */
    private static TickKeeper threeOthers() {
        TickKeeper x = jobs(12);
        for (int other = 1; other <= 3; other++) x.after(0, other);
        return x;
    }

    private void othersAtMost() {
        sentence(TERMS, "It may be PAUSED.");
        TickKeeper x = hourly(2);
        due("not at first", x.pause(0, true), 0);
        due("now it is", x.pause(0, true), 1);
        due("the other is not", x.pause(1, true), 0);
        sentence(TERMS, "It may wait for others (3 at most).");
        TickKeeper y = jobs(12);
        for (int n = 1; n <= 3; n++) due("other " + n, y.after(0, n), n);
        refused("a fourth", JobBounds::threeOthers, FULL, k -> k.after(0, 4));
        due("another job's first", threeOthers().after(4, 0), 1);
    }

    // ---- promises

    private void job() {
        sentence(8, "A JOB of a ZONE: its number.");
        TickKeeper x = zones(2);
        for (int j = 0; j < 12; j++) {
            due("job(" + j % 2 + ")", x.job(j % 2), j);
            due("count(2)", x.count(2), j + 1);
        }
        registerIs(x, 0, 11, 0, 0, -1, 0, 0, 0, NONE);
        registerIs(x, 2, 11, 0, 0, -1, 0, 0, 0, NONE);
        due("never due", x.due(11, 0), NONE);
        due("nothing was done", x.effects(11), 0);
        sentence(8, "BAD; FULL.");
        badBeside("zone", () -> zones(2), 0, 1, z -> k -> k.job(z));
        refused("no zone", TickKeeper::new, BAD, k -> k.job(0));
        refused("a 13th", () -> jobs(12), FULL, k -> k.job(0));
        refused("BAD ahead of FULL", () -> jobs(12), BAD, k -> k.job(1));
        refused("BAD ahead of FULL", () -> jobs(12), BAD, k -> k.job(-1));
    }

    private void mask() {
        sentence(9, "A MASK (0 .. 4) becomes those bits of it that it has: how many these are.");
        int[] sizes = {60, 24, 31, 12, 7};
        for (int field = 0; field < 5; field++) {
            TickKeeper x = jobs(2);
            due("all of " + field, x.mask(0, field, -1L), sizes[field]);
            due("none of " + field, x.mask(0, field, 0L), 0);
            due("the highest bit of a long in " + field, x.mask(0, field, HIGHEST_OF_ALL), 0);
            due("the others of a long in " + field, x.mask(0, field, ~HIGHEST_OF_ALL), sizes[field]);
        }
        TickKeeper x = hourly(2);
        due("it becomes them, what was there goes", x.mask(0, 0, 1L << 30), 1);
        due("at half past", x.due(0, 0), 30);
        due("the other job's stays", x.due(1, 0), 0);
        due("bits that it has not leave nothing", x.mask(0, 0, 1L << 60), 0);
        due("never", x.due(0, 0), NONE);
        sentence(9, "BAD.");
        badBeside("field", () -> hourly(1), 0, 4, f -> k -> k.mask(0, f, 0L));
        badBeside("job", () -> hourly(2), 0, 1, j -> k -> k.mask(j, 0, 0L));
        refused("no job", () -> zones(1), BAD, k -> k.mask(0, 0, 1L));
    }

    private void nth() {
        sentence(10, "One of the NTHS more: how many.");
        TickKeeper x = jobs(1);
        due("the least numbers", x.nth(0, 0, 1), 1);
        due("the greatest numbers", x.nth(0, 6, 6), 2);
        due("one that is there, once more", x.nth(0, 6, 6), 3);
        sentence(10, "BAD; FULL.");
        badBeside("weekday", () -> jobs(1), 0, 6, w -> k -> k.nth(0, w, 1));
        badBeside("n", () -> jobs(1), 1, 6, n -> k -> k.nth(0, 0, n));
        badBeside("job", () -> jobs(2), 0, 1, j -> k -> k.nth(j, 0, 1));
        refused("a fourth", JobBounds::threeNths, FULL, k -> k.nth(0, 0, 6));
        refused("one that is there, when full", JobBounds::threeNths, FULL, k -> k.nth(0, 1, 1));
        refused("BAD ahead of FULL: weekday", JobBounds::threeNths, BAD, k -> k.nth(0, 7, 1));
        refused("BAD ahead of FULL: n", JobBounds::threeNths, BAD, k -> k.nth(0, 0, 0));
    }

    private void except() {
        sentence(11, "An EXCEPTION more: how many (one that is there is told again, too).");
        TickKeeper x = hourly(1);
        due("the first minute", x.except(0, 0), 1);
        due("the last minute", x.except(0, LAST), 2);
        due("one that is there", x.except(0, 0), 3);
        due("once more", x.except(0, 0), 4);
        due("one that is not due", x.except(0, 61), 5);
        due("the sixth", x.except(0, 60), 6);
        due("due", x.due(0, 0), 120);
        sentence(11, "BAD; FULL.");
        badBeside("minute", () -> hourly(1), 0, LAST, m -> k -> k.except(0, m));
        badBeside("job", () -> hourly(2), 0, 1, j -> k -> k.except(j, 60));
        refused("a seventh", JobBounds::sixExceptions, FULL, k -> k.except(0, 420));
        refused("one that is there, when full", JobBounds::sixExceptions, FULL, k -> k.except(0, 0));
        refused("BAD ahead of FULL", JobBounds::sixExceptions, BAD, k -> k.except(0, -1));
        refused("BAD ahead of FULL", JobBounds::sixExceptions, BAD, k -> k.except(0, LAST + 1));
        due("another job's first", sixExceptions().except(1, 420), 1);
    }

    private void onHoliday() {
        sentence(12, "A HOLIDAY's way (0 .. 2): what it was.");
        TickKeeper x = jobs(2);
        due("0 at first", x.onHoliday(0, 2), 0);
        due("2", x.onHoliday(0, 1), 2);
        due("1", x.onHoliday(0, 0), 1);
        due("0", x.onHoliday(0, 0), 0);
        due("the other's", x.onHoliday(1, 0), 0);
        sentence(12, "BAD.");
        badBeside("way", () -> moving(7, 6), 0, 2, w -> k -> k.onHoliday(0, w));
        badBeside("job", () -> jobs(2), 0, 1, j -> k -> k.onHoliday(j, 1));
    }

    private void catchUp() {
        sentence(13, "Catching up (0 .. 2) and LATENESS: 1.");
        for (int mode = 0; mode < 3; mode++) {
            due("mode " + mode + ", lateness 0", jobs(1).catchUp(0, mode, 0), 1);
            due("mode " + mode + ", lateness 1440", jobs(1).catchUp(0, mode, DAY), 1);
        }
        sentence(13, "BAD.");
        badBeside("mode", () -> hourlyAt(1, 130), 0, 2, m -> k -> k.catchUp(0, m, 0));
        badBeside("lateness", () -> hourlyAt(1, 130), 0, DAY, l -> k -> k.catchUp(0, ONLY_NOW, l));
        badBeside("job", () -> hourlyAt(2, 130), 0, 1, j -> k -> k.catchUp(j, ONLY_NOW, 0));
    }

    /** Of twelve JOBS 0 waits for 1, which waits for 2, and so on, as many as told. */
    private static TickKeeper chain(int jobs) {
        TickKeeper x = jobs(12);
        for (int j = 0; j + 1 < jobs; j++) x.after(j, j + 1);
        return x;
    }

    private void after() {
        sentence(14, "The JOB waits for another one: for how many.");
        TickKeeper x = jobs(12);
        due("the first job for the last", x.after(0, 11), 1);
        due("a second", x.after(0, 10), 2);
        due("a third", x.after(0, 9), 3);
        due("the last for one that waits for nothing", x.after(11, 10), 1);
        sentence(14, "BAD;");
        badBeside("job", () -> jobs(3), 0, 2, j -> k -> k.after(j, 1));
        badBeside("other", () -> jobs(3), 0, 2, j -> k -> k.after(1, j));
        refused("no job", () -> zones(1), BAD, k -> k.after(0, 0));
        badBeside("both", () -> jobs(3), 0, 2, j -> k -> k.after(j, j));
    }

    private void afterRefusals() {
        sentence(14, "STATE: that one is it, or waits for it by some steps, or is waited for already;");
        refused("itself", () -> jobs(1), STATE, x -> x.after(0, 0));
        refused("itself, the last", () -> jobs(12), STATE, x -> x.after(11, 11));
        for (int jobs = 2; jobs <= 12; jobs++) {
            int last = jobs - 1;
            refused("by " + last + " steps", () -> chain(last + 1), STATE, x -> x.after(last, 0));
        }
        due("by one step, amid a chain", chain(11).after(9, 8), STATE);
        TickKeeper x = jobs(12);
        for (int j = 11; j > 0; j--) x.after(j, j - 1);
        due("by 11 steps down", x.after(0, 11), STATE);
        due("the other way, over some steps", x.after(11, 0), 2);
        refused("already", () -> chain(3), STATE, k -> k.after(0, 1));
        due("waited for by steps alone", chain(3).after(0, 2), 2);
        due("waited for by another job", threeOthers().after(5, 1), 1);
        sentence(14, "FULL.");
        refused("a fourth", JobBounds::threeOthers, FULL, k -> k.after(0, 11));
        refused("BAD ahead of FULL", JobBounds::threeOthers, BAD, k -> k.after(0, 12));
        refused("BAD ahead of FULL", JobBounds::threeOthers, BAD, k -> k.after(0, -1));
        refused("STATE ahead of FULL: itself", JobBounds::threeOthers, STATE, k -> k.after(0, 0));
        refused("STATE ahead of FULL: already", JobBounds::threeOthers, STATE, k -> k.after(0, 3));
        refused("STATE ahead of FULL: it waits", JobBounds::threeOthersAndAWaiter, STATE, k -> k.after(0, 4));
    }

    private static TickKeeper threeOthersAndAWaiter() {
        TickKeeper x = threeOthers();
        x.after(4, 0);
        return x;
    }

    private void pause() {
        sentence(15, "The JOB is PAUSED, or not: what it was (1, 0).");
        TickKeeper x = hourly(2);
        due("not paused, and stays so", x.pause(0, false), 0);
        due("paused", x.pause(0, true), 0);
        due("paused again", x.pause(0, true), 1);
        due("the other alone is woken", x.wake(0), 1);
        due("not paused", x.pause(0, false), 1);
        due("not paused again", x.pause(0, false), 0);
        due("both are woken", x.wake(0), 2);
        sentence(15, "BAD.");
        badBeside("job", () -> hourly(2), 0, 1, j -> k -> k.pause(j, true));
        refused("no job", () -> zones(1), BAD, k -> k.pause(0, true));
    }

    private void due() {
        sentence(16, "The first DUE MINUTE not below from;");
        TickKeeper x = jobs(1);
        dailyAt(x, 0, 60);
        due("ahead of it", x.due(0, 59), 60);
        due("it", x.due(0, 60), 60);
        due("behind it", x.due(0, 61), 60 + DAY);
        due("the last one", x.due(0, LAST - DAY + 61), LAST - DAY + 61);
        sentence(16, "NONE.");
        due("behind the last one", x.due(0, LAST - DAY + 62), NONE);
        due("at the end", x.due(0, LAST), NONE);
        due("of a job without masks", jobs(1).due(0, 0), NONE);
        TickKeeper end = jobs(1);
        dailyAt(end, 0, DAY - 1);
        due("the last minute is one", end.due(0, LAST), LAST);
        end.except(0, LAST);
        due("it is excepted", end.due(0, LAST), NONE);
        due("from far ahead of it", end.due(0, LAST - DAY + 1), NONE);
        sentence(16, "BAD (from 0 .. 21038399).");
        due("from 0", hourly(1).due(0, 0), 0);
        due("from the last", hourly(1).due(0, LAST), NONE);
        badBeside("from", () -> hourly(1), 0, LAST, m -> k -> k.due(0, m));
        badBeside("job", () -> hourly(2), 0, 1, j -> k -> k.due(j, 0));
        refused("BAD ahead of NONE", () -> jobs(1), BAD, k -> k.due(0, LAST + 1));
    }

    private void between() {
        sentence(17, "The i-th (0 .. 50) DUE MINUTE of a .. b;");
        TickKeeper x = hourly(1);
        due("a is due", x.between(0, 60, 180, 0), 60);
        due("b is due", x.between(0, 60, 180, 2), 180);
        due("a is behind one", x.between(0, 61, 180, 0), 120);
        due("one minute", x.between(0, 60, 60, 0), 60);
        due("the first minute", x.between(0, 0, 0, 0), 0);
        due("the last hour", x.between(0, LAST - 59, LAST, 0), LAST - 59);
        due("the 50th", x.between(0, 0, LAST, 50), 3000);
        due("the 50th is b", x.between(0, 0, 3000, 50), 3000);
        TickKeeper beside = jobs(1);
        daily(beside, 0, -1L, -1L);
        for (int i = 0; i <= 50; i++) due("minutes side by side", beside.between(0, 7, 57, i), 7 + i);
        due("one less", beside.between(0, 7, 56, 50), NONE);
        sentence(17, "NONE.");
        due("b is ahead of the third", x.between(0, 60, 179, 2), NONE);
        due("none between", x.between(0, 61, 119, 0), NONE);
        due("b is ahead of the 50th", x.between(0, 0, 2999, 50), NONE);
        due("b is below a", x.between(0, 180, 60, 0), NONE);
        due("b is one below a, which is due", x.between(0, 60, 59, 0), NONE);
        due("behind the last one", x.between(0, LAST - 59, LAST, 1), NONE);
        due("of a job without masks", jobs(1).between(0, 0, LAST, 0), NONE);
        sentence(17, "BAD.");
        badBeside("i", () -> hourly(1), 0, 50, i -> k -> k.between(0, 0, LAST, i));
        badBeside("a", () -> hourly(1), 0, LAST, a -> k -> k.between(0, a, LAST, 0));
        badBeside("b", () -> hourly(1), 0, LAST, b -> k -> k.between(0, 0, b, 0));
        badBeside("job", () -> hourly(2), 0, 1, j -> k -> k.between(j, 0, LAST, 0));
        refused("BAD ahead of NONE", () -> jobs(1), BAD, k -> k.between(0, 0, LAST, 51));
    }

    private void runNow() {
        sentence(18, "NOW is an EXTRA of a JOB: how many it has.");
        TickKeeper x = jobs(2);
        due("at 0", x.runNow(0), 1);
        due("it is due", x.due(0, 0), 0);
        due("nothing else is", x.due(0, 1), NONE);
        due("the other job's own", x.runNow(1), 1);
        due("it is woken", x.wake(2), 2);
        x.flow(50);
        due("and done", x.effect(0, 0, 0), 0);
        x.now(1);
        due("a second, a minute later", x.runNow(0), 2);
        sentence(18, "BAD;");
        badBeside("job", () -> jobs(2), 0, 1, j -> k -> k.runNow(j));
        refused("no job", () -> zones(1), BAD, k -> k.runNow(0));
        refused("BAD ahead of FULL", JobBounds::eightExtrasAndLater, BAD, k -> k.runNow(2));
        sentence(18, "FULL.");
        due("the eighth", eightExtras().due(0, 80), 80);
        refused("a ninth", JobBounds::eightExtrasAndLater, FULL, k -> k.runNow(0));
    }

    /** Its EXTRA of MINUTE 7 was EFFECTED. */
    private static TickKeeper effectedAt7() {
        TickKeeper x = jobs(1);
        x.now(7);
        x.runNow(0);
        wakeAndFlow(x, 0);
        return x;
    }

    private static TickKeeper eightExtrasAndOneDue() {
        TickKeeper x = eightExtrasAndLater();
        dailyAt(x, 0, 81);
        return x;
    }

    private void runNowRefusals() {
        sentence(18, "STATE: a MINUTE that is not below NOW was EFFECTED,");
        refused("it is NOW", JobBounds::effectedAt7, STATE, x -> x.runNow(0));
        TickKeeper later = effectedAt7();
        later.now(8);
        due("it is below NOW", later.runNow(0), 2);
        refused("STATE ahead of FULL", JobBounds::eightExtras, STATE, x -> x.runNow(0));
        sentence(18, "or one up to NOW is DUE that is above UP TO of all three REGISTERS;");
        refused("NOW is due", () -> hourlyAt(1, 0), STATE, x -> x.runNow(0));
        refused("NOW is due, and one ahead of it", () -> hourlyAt(1, 60), STATE, x -> x.runNow(0));
        refused("one ahead of NOW is due", () -> hourlyAt(1, 59), STATE, x -> x.runNow(0));
        TickKeeper ahead = jobs(1);
        dailyAt(ahead, 0, 60);
        ahead.now(59);
        due("the next is above NOW", ahead.runNow(0), 1);
        refused("an extra that is not claimed", JobBounds::toldOnce, STATE, x -> x.runNow(0));
        for (int s = 0; s < 3; s++) due("UP TO of " + s + " alone is it", claimedBy(s).runNow(0), 1);
        TickKeeper two = claimedBy(1);
        two.mask(0, 0, 3L);
        due("one right above UP TO", two.runNow(0), STATE);
        two.except(0, 1);
        due("it is excepted", two.runNow(0), 1);
        refused("STATE ahead of FULL", JobBounds::eightExtrasAndOneDue, STATE, x -> x.runNow(0));
        TickKeeper paused = hourlyAt(1, 30);
        paused.pause(0, true);
        due("a paused job's, too", paused.runNow(0), STATE);
    }

    private static TickKeeper toldOnce() {
        TickKeeper x = jobs(1);
        x.now(7);
        x.runNow(0);
        return x;
    }

    /** At MINUTE 30 one SCHEDULER alone has accepted UP TO 0. */
    private static TickKeeper claimedBy(int scheduler) {
        TickKeeper x = hourlyAt(1, 30);
        x.wake(scheduler);
        x.deliver(0);
        x.deliver(1);
        return x;
    }
}
