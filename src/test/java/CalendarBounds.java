import java.time.LocalDate;
import java.util.function.Supplier;

/** Part 1 of the terms, and promises 1 to 7. */
final class CalendarBounds extends Bounds {
    @Override
    void all() {
        minutes();
        nowFrom0();
        zonesAtMost();
        shiftsAtMost();
        localMinutes();
        localDays();
        holidaysAtMost();
        workingDays();
        theMoment();
        newObject();
        zone();
        shift();
        shiftRefusals();
        holiday();
        local();
        moment();
        day();
    }

    // ---- terms

    private void minutes() {
        sentence(TERMS, "1 TIME is in MINUTES 0 ..");
        Supplier<TickKeeper> story = () -> jobs(1);
        due("the first of shift", story.get().shift(0, 0, 1), 1);
        due("the first of local", story.get().local(0, 0), 0);
        due("the first of except", story.get().except(0, 0), 1);
        due("the first of due", story.get().due(0, 0), NONE);
        due("the first of between", story.get().between(0, 0, 0, 0), NONE);
        due("the first of now", story.get().now(0), 1);
        sentence(TERMS, "21038399 from January 1, 2000, 0:00 on (40 years);");
        due("the last of shift", story.get().shift(0, LAST, 1), 1);
        due("the last of local", story.get().local(0, LAST), LAST);
        due("the last of except", story.get().except(0, LAST), 1);
        due("the last of due", story.get().due(0, LAST), NONE);
        due("the last of between", story.get().between(0, LAST, LAST, 0), NONE);
        due("the last of now", story.get().now(LAST), 1);
        due("its day is of 2039", story.get().day(0, LAST / DAY, 0), 2039);
        due("the next is not", story.get().day(0, LAST / DAY + 1, 0), 2040);
        badBeside("shift at", story, 0, LAST, m -> x -> x.shift(0, m, 1));
        badBeside("except", story, 0, LAST, m -> x -> x.except(0, m));
        badBeside("due from", story, 0, LAST, m -> x -> x.due(0, m));
        badBeside("between, a", story, 0, LAST, m -> x -> x.between(0, m, 5, 0));
        badBeside("between, b", story, 0, LAST, m -> x -> x.between(0, 5, m, 0));
        badBeside("now", story, 0, LAST, m -> x -> x.now(m));
        TickKeeper x = jobs(2);
        dailyAt(x, 0, 0);
        dailyAt(x, 1, DAY - 1);
        due("the first minute is due", x.due(0, 0), 0);
        due("the last minute is due", x.due(1, LAST - DAY + 1), LAST);
        due("the last midnight", x.due(0, LAST - DAY + 1), LAST - DAY + 1);
        due("no midnight behind it", x.due(0, LAST - DAY + 2), NONE);
    }

    private void nowFrom0() {
        sentence(TERMS, "NOW goes forward, from 0.");
        TickKeeper x = new TickKeeper();
        due("at first", x.count(0), 0);
        due("it may stay", x.now(0), 1);
        due("by one", x.now(1), 1);
        due("count(0)", x.count(0), 1);
        due("back", x.now(0), STATE);
        due("to the last", x.now(LAST), 1);
        due("and stay there", x.now(LAST), 1);
        due("count(0)", x.count(0), LAST);
    }

    private void zonesAtMost() {
        sentence(TERMS, "ZONES (3 at most)");
        due("the third", zones(2).zone(), 2);
        refused("a fourth", () -> zones(3), FULL, x -> x.zone());
        refused("a fifth", () -> zones(4), FULL, x -> x.zone());
    }

    private static TickKeeper tenShifts() {
        TickKeeper x = zones(2);
        for (int n = 0; n < 10; n++) x.shift(0, 100 * n, n);
        return x;
    }

    private void shiftsAtMost() {
        sentence(TERMS, "have SHIFTS (10 at most):");
        TickKeeper x = zones(2);
        for (int n = 1; n <= 10; n++) due("shift " + n, x.shift(0, 100 * n, n), n);
        due("the tenth counts", x.local(0, 1000), 1010);
        due("another zone's first", x.shift(1, 0, 1), 1);
        refused("an eleventh", CalendarBounds::tenShifts, FULL, k -> k.shift(0, 901, 700));
        refused("an eleventh at the end", CalendarBounds::tenShifts, FULL, k -> k.shift(0, LAST, 700));
    }

    private void localMinutes() {
        sentence(TERMS, "from that MINUTE on the LOCAL minute is the MINUTE and its offset (0 ahead of the first).");
        TickKeeper x = zones(1);
        x.shift(0, 100, 60);
        x.shift(0, 101, -840);
        x.shift(0, LAST, 840);
        due("the first minute", x.local(0, 0), 0);
        due("right ahead of the first", x.local(0, 99), 99);
        due("at the first", x.local(0, 100), 160);
        due("at the second, right behind it", x.local(0, 101), -739);
        due("right ahead of the last", x.local(0, LAST - 1), LAST - 841);
        due("at the last", x.local(0, LAST), LAST + 840);
        TickKeeper y = zones(1);
        y.shift(0, 0, -840);
        due("none is ahead of one at 0", y.local(0, 0), -840);
    }

    private void localDays() {
        sentence(TERMS, "LOCAL days are LOCAL minutes by 1440, rounded down (0: January 1, 2000, a Saturday; some are below 0);");
        TickKeeper x = jobs(1);
        due("year", x.day(0, 0, 0), 2000);
        due("month", x.day(0, 0, 1), 1);
        due("day of the month", x.day(0, 0, 2), 1);
        due("a Saturday", x.day(0, 0, 3), 5);
        x.shift(0, 0, -840);
        daily(x, 0, -1L, -1L);
        x.mask(0, 3, 1L << 12);
        due("LOCAL minute -840 is of December 31, 1999", x.due(0, 0), 0);
        due("LOCAL minute -1 is, too", x.due(0, 839), 839);
        due("LOCAL minute 0 is not", x.due(0, 840), 335 * DAY + 840);
        x.mask(0, 3, 1L << 1);
        x.mask(0, 2, 1L << 1);
        due("LOCAL minute 0 is of January 1", x.due(0, 0), 840);
        due("LOCAL minute 1439 is, too", x.due(0, 840 + DAY - 1), 840 + DAY - 1);
        due("LOCAL minute 1440 is not", x.due(0, 840 + DAY), 366 * DAY + 840);
        TickKeeper y = jobs(1);
        y.shift(0, LAST, 840);
        daily(y, 0, -1L, -1L);
        y.mask(0, 3, 1L << 1);
        due("the last minute leaps into January 1, 2040", y.due(0, 14276 * DAY), LAST);
    }

    private static TickKeeper twentyHolidays() {
        TickKeeper x = zones(2);
        for (int n = 0; n < 20; n++) x.holiday(0, 10 * n);
        return x;
    }

    private void holidaysAtMost() {
        sentence(TERMS, "a ZONE has HOLIDAYS (20 at most), LOCAL days.");
        TickKeeper x = zones(2);
        for (int n = 0; n < 20; n++) due("holiday " + n, x.holiday(0, 10 * n), 1);
        for (int n = 0; n < 20; n++) due("holiday " + n, x.day(0, 10 * n, 4), 1);
        due("another zone's first", x.holiday(1, 5), 1);
        due("they are of a zone alone", x.day(1, 10, 4), 0);
        refused("a 21st", CalendarBounds::twentyHolidays, FULL, k -> k.holiday(0, 5));
        // LOCAL day 1 begins at MINUTE 1380 in this ZONE.
        TickKeeper y = jobs(1);
        y.shift(0, 0, 60);
        daily(y, 0, 1L, -1L);
        y.onHoliday(0, 1);
        y.holiday(0, 1);
        due("the last hour ahead of it", y.due(0, 1320), 1320);
        due("its first hour is off", y.due(0, 1321), 1380 + DAY);
    }

    private void workingDays() {
        sentence(TERMS, "A WORKING day is none, no Saturday, no Sunday.");
        TickKeeper x = zones(1);
        int[] working = {0, 0, 1, 1, 1, 1, 1, 0, 0, 1};
        for (int day = 0; day < working.length; day++) due("day " + day, x.day(0, day, 5), working[day]);
        x.holiday(0, 6);
        x.holiday(0, 7);
        due("a Friday that is a holiday", x.day(0, 6, 5), 0);
        due("a Saturday that is one", x.day(0, 7, 5), 0);
        due("the Thursday ahead of them", x.day(0, 5, 5), 1);
        due("a Friday below 0", x.day(0, -1, 5), 1);
        due("a Sunday below 0", x.day(0, -6, 5), 0);
        due("a Saturday below 0", x.day(0, -7, 5), 0);
        due("a Monday below 0", x.day(0, -5, 5), 1);
    }

    private void theMoment() {
        sentence(TERMS, "THE MOMENT of a LOCAL minute is the first MINUTE whose LOCAL minute is it or a later one;");
        TickKeeper x = zones(1);
        x.shift(0, 1000, 60);
        x.shift(0, 2000, 0);
        due("the last ahead of what is left out", x.moment(0, 999), 999);
        due("the first left out", x.moment(0, 1000), 1000);
        due("the last left out", x.moment(0, 1059), 1000);
        due("the first behind it", x.moment(0, 1060), 1000);
        due("the second behind it", x.moment(0, 1061), 1001);
        due("the last told once", x.moment(0, 1999), 1939);
        due("the first told twice", x.moment(0, 2000), 1940);
        due("the last told twice", x.moment(0, 2059), 1999);
        due("the first told once again", x.moment(0, 2060), 2060);
        TickKeeper y = zones(1);
        y.shift(0, 0, 840);
        y.shift(0, 1, -840);
        due("one minute was ahead", y.moment(0, 840), 0);
        due("the next comes 1681 later", y.moment(0, 841), 1681);
        sentence(TERMS, "there is none of one that is below MINUTE 0's, or later than all.");
        due("below 0", zones(1).moment(0, -1), NONE);
        due("0", zones(1).moment(0, 0), 0);
        due("the last", zones(1).moment(0, LAST), LAST);
        due("behind the last", zones(1).moment(0, LAST + 1), NONE);
        due("839, when MINUTE 0's is 840", y.moment(0, 839), NONE);
        due("later than all of MINUTES told back", y.moment(0, LAST - 839), NONE);
        due("the last one of them", y.moment(0, LAST - 840), LAST);
        TickKeeper z = zones(1);
        z.shift(0, 0, -840);
        z.shift(0, LAST, 840);
        due("-841", z.moment(0, -841), NONE);
        due("-840", z.moment(0, -840), 0);
        due("the last minute's own", z.moment(0, LAST + 840), LAST);
        due("later than it", z.moment(0, LAST + 841), NONE);
    }

    // ---- promises

    private void newObject() {
        sentence(1, "No ZONES, no JOBS;");
        TickKeeper x = new TickKeeper();
        for (int what = 0; what < 7; what++) due("count(" + what + ")", x.count(what), 0);
        refused("a shift of no zone", TickKeeper::new, BAD, k -> k.shift(0, 0, 0));
        refused("a job of no zone", TickKeeper::new, BAD, k -> k.job(0));
        refused("a mask of no job", TickKeeper::new, BAD, k -> k.mask(0, 0, 1L));
        refused("effects of no job", TickKeeper::new, BAD, k -> k.effects(0));
        due("the first zone", x.zone(), 0);
        refused("a mask of no job, with a zone", () -> zones(1), BAD, k -> k.mask(0, 0, 1L));
        due("the first job", x.job(0), 0);
        sentence(1, "all are up.");
        for (int s = 0; s < 3; s++) {
            int scheduler = s;
            refused("scheduler " + s + " is up", TickKeeper::new, STATE, k -> k.restart(scheduler));
            due("scheduler " + s + " wakes", new TickKeeper().wake(s), 0);
            due("scheduler " + s + " goes down", new TickKeeper().crash(s), 0);
        }
        due("desk 0", new TickKeeper().desk(0, true), 0);
        due("desk 1", new TickKeeper().desk(1, true), 0);
    }

    private void zone() {
        sentence(2, "A ZONE: its number.");
        TickKeeper x = new TickKeeper();
        for (int z = 0; z < 3; z++) {
            due("zone()", x.zone(), z);
            due("count(1)", x.count(1), z + 1);
            due("it has no shift", x.local(z, LAST), LAST);
            due("it has no holiday", x.day(z, 0, 4), 0);
        }
        sentence(2, "FULL.");
        refused("a fourth", () -> zones(3), FULL, k -> k.zone());
    }

    private void shift() {
        sentence(3, "A ZONE has one SHIFT more, at a MINUTE, to an offset (-840 .. 840): how many.");
        due("the least offset", zones(1).shift(0, 5, -840), 1);
        due("the greatest offset", zones(1).shift(0, 5, 840), 1);
        due("no offset", zones(1).shift(0, 5, 0), 1);
        due("the first minute", zones(1).shift(0, 0, 1), 1);
        due("the last minute", zones(1).shift(0, LAST, 1), 1);
        TickKeeper x = zones(1);
        x.shift(0, 0, -840);
        due("the next minute", x.shift(0, 1, 840), 2);
        due("the same offset again", x.shift(0, 2, 840), 3);
        due("LOCAL of 0", x.local(0, 0), -840);
        due("LOCAL of 1", x.local(0, 1), 841);
    }

    /** Ten SHIFTS there are none behind. */
    private static TickKeeper tenShiftsToTheLast() {
        TickKeeper x = zones(1);
        for (int n = 9; n >= 0; n--) x.shift(0, LAST - n, n);
        return x;
    }

    private static TickKeeper shifted() {
        TickKeeper x = zones(2);
        x.shift(0, 100, 60);
        return x;
    }

    private void shiftRefusals() {
        sentence(3, "BAD; STATE: it is not behind the latest one; FULL.");
        badBeside("zone", CalendarBounds::shifted, 0, 1, z -> x -> x.shift(z, 200, 5));
        badBeside("minute", CalendarBounds::shifted, 0, LAST, m -> x -> x.shift(0, m, 5));
        badBeside("offset", CalendarBounds::shifted, -840, 840, o -> x -> x.shift(0, 200, o));
        refused("right ahead of it", CalendarBounds::shifted, STATE, x -> x.shift(0, 99, 5));
        refused("at the same", CalendarBounds::shifted, STATE, x -> x.shift(0, 100, 5));
        refused("at the same, as it is", CalendarBounds::shifted, STATE, x -> x.shift(0, 100, 60));
        refused("at 0", CalendarBounds::shifted, STATE, x -> x.shift(0, 0, 5));
        due("right behind it", shifted().shift(0, 101, 5), 2);
        due("another zone's latest is not its own", shifted().shift(1, 100, 5), 1);
        refused("FULL", CalendarBounds::tenShifts, FULL, x -> x.shift(0, 901, 5));
        due("another zone is not full", tenShifts().shift(1, 901, 5), 1);
        refused("BAD ahead of STATE", CalendarBounds::shifted, BAD, x -> x.shift(0, 100, 841));
        refused("BAD ahead of STATE", CalendarBounds::shifted, BAD, x -> x.shift(0, -1, 5));
        refused("BAD ahead of FULL", CalendarBounds::tenShifts, BAD, x -> x.shift(0, 901, -841));
        refused("BAD ahead of FULL", CalendarBounds::tenShifts, BAD, x -> x.shift(0, LAST + 1, 5));
        refused("STATE ahead of FULL", CalendarBounds::tenShifts, STATE, x -> x.shift(0, 900, 5));
        refused("BAD ahead of both", CalendarBounds::tenShifts, BAD, x -> x.shift(0, 900, 841));
        refused("STATE, for all minutes", CalendarBounds::tenShiftsToTheLast, STATE, x -> x.shift(0, LAST, 5));
        refused("an eleventh behind the last", CalendarBounds::tenShiftsToTheLast, BAD, x -> x.shift(0, LAST + 1, 5));
    }

    private void holiday() {
        sentence(4, "A day (0 .. 14609) becomes a HOLIDAY: 1;");
        due("the first day", zones(1).holiday(0, 0), 1);
        due("the last day", zones(1).holiday(0, 14609), 1);
        TickKeeper x = zones(1);
        x.holiday(0, 14609);
        due("it is one now", x.day(0, 14609, 4), 1);
        due("the day beside it is not", x.day(0, 14608, 4), 0);
        due("the other day beside it is not", x.day(0, 14610, 4), 0);
        sentence(4, "it is one: 0.");
        due("again", x.holiday(0, 14609), 0);
        for (int n = 0; n < 19; n++) due("19 more, as it takes one place", x.holiday(0, n), 1);
        due("the first, in a full zone", x.holiday(0, 14609), 0);
        due("the last, in a full zone", x.holiday(0, 18), 0);
        sentence(4, "BAD; FULL.");
        badBeside("day", () -> zones(1), 0, 14609, d -> k -> k.holiday(0, d));
        badBeside("zone", () -> zones(2), 0, 1, z -> k -> k.holiday(z, 5));
        refused("a 21st", CalendarBounds::twentyHolidays, FULL, k -> k.holiday(0, 191));
        refused("a day too low, in a full zone", CalendarBounds::twentyHolidays, BAD, k -> k.holiday(0, -1));
        refused("a day too high, in a full zone", CalendarBounds::twentyHolidays, BAD, k -> k.holiday(0, 14610));
        due("another zone is not full", twentyHolidays().holiday(1, 191), 1);
    }

    private void local() {
        sentence(5, "The LOCAL minute of a MINUTE.");
        due("the first", zones(1).local(0, 0), 0);
        due("the last", zones(1).local(0, LAST), LAST);
        TickKeeper x = zones(1);
        x.shift(0, 0, -840);
        due("it may be below 0", x.local(0, 0), -840);
        due("it may be BAD's number", x.local(0, 839), -1);
        due("it may be NONE's number", x.local(0, 831), -9);
        sentence(5, "-1000000: BAD.");
        for (int wrongNumber : new int[] {-1, 1, MIN, MAX}) {
            refused("zone " + wrongNumber, () -> zones(1), -1000000, k -> k.local(wrongNumber, 5));
        }
        for (int wrongNumber : new int[] {-1, LAST + 1, MIN, MAX}) {
            refused("minute " + wrongNumber, () -> zones(1), -1000000, k -> k.local(0, wrongNumber));
        }
        refused("no zone", TickKeeper::new, -1000000, k -> k.local(0, 0));
    }

    private void moment() {
        sentence(6, "THE MOMENT of a LOCAL minute (any number);");
        due("0", zones(1).moment(0, 0), 0);
        due("the last", zones(1).moment(0, LAST), LAST);
        sentence(6, "NONE.");
        TickKeeper ahead = zones(1);
        ahead.shift(0, 0, 840);
        TickKeeper back = zones(1);
        back.shift(0, 0, -840);
        for (TickKeeper x : new TickKeeper[] {zones(1), ahead, back}) {
            due("the least number", x.moment(0, MIN), NONE);
            due("the next to it", x.moment(0, MIN + 839), NONE);
            due("the greatest number", x.moment(0, MAX), NONE);
            due("the next to it", x.moment(0, MAX - 839), NONE);
        }
        due("one below MINUTE 0's", ahead.moment(0, 839), NONE);
        due("MINUTE 0's", ahead.moment(0, 840), 0);
        due("the last MINUTE's", ahead.moment(0, LAST + 840), LAST);
        due("one above it", ahead.moment(0, LAST + 841), NONE);
        due("one below MINUTE 0's, told back", back.moment(0, -841), NONE);
        due("MINUTE 0's, told back", back.moment(0, -840), 0);
        due("the last MINUTE's, told back", back.moment(0, LAST - 840), LAST);
        due("one above it, told back", back.moment(0, LAST - 839), NONE);
        sentence(6, "BAD.");
        badBeside("zone", () -> zones(3), 0, 2, z -> x -> x.moment(z, 5));
        refused("no zone", TickKeeper::new, BAD, x -> x.moment(0, 5));
        refused("BAD ahead of NONE", () -> zones(1), BAD, x -> x.moment(1, -5));
    }

    private void day() {
        sentence(7, "Of a LOCAL day (-1000 .. 20000):");
        TickKeeper x = zones(1);
        int[] least = {1997, 4, 6, 6, 0, 0};
        int[] greatest = {2054, 10, 4, 6, 0, 0};
        for (int what = 0; what < 6; what++) {
            int w = what;
            due("day -1000", x.day(0, -1000, w), least[w]);
            due("day 20000", x.day(0, 20000, w), greatest[w]);
            badBeside("of " + w + ": day", () -> zones(1), -1000, 20000, d -> k -> k.day(0, d, w));
        }
        due("a working day at the low end", x.day(0, -999, 5), 1);
        due("a working day at the high end", x.day(0, 19998, 5), 1);
        sentence(7, "0 year, 1 month, 2 day of the month, 3 weekday;");
        int[][] dates = {{-1, 1999, 12, 31, 4}, {0, 2000, 1, 1, 5}, {1, 2000, 1, 2, 6}, {2, 2000, 1, 3, 0},
            {30, 2000, 1, 31, 0}, {31, 2000, 2, 1, 1}, {58, 2000, 2, 28, 0}, {59, 2000, 2, 29, 1}, {60, 2000, 3, 1, 2},
            {365, 2000, 12, 31, 6}, {366, 2001, 1, 1, 0}, {424, 2001, 2, 28, 2}, {425, 2001, 3, 1, 3},
            {1460, 2003, 12, 31, 2}, {1461, 2004, 1, 1, 3}, {1520, 2004, 2, 29, 6}, {14609, 2039, 12, 31, 5},
            {14610, 2040, 1, 1, 6}, {-366, 1998, 12, 31, 3}, {-365, 1999, 1, 1, 4}, {-307, 1999, 2, 28, 6}, {-306, 1999, 3, 1, 0}};
        for (int[] date : dates) {
            for (int what = 0; what < 4; what++) {
                due("day(0, " + date[0] + ", " + what + ")", x.day(0, date[0], what), date[what + 1]);
            }
        }
        endsOfMonths();
        sentence(7, "of a ZONE: 4 whether it is a HOLIDAY, 5 a WORKING day.");
        TickKeeper y = zones(2);
        y.holiday(0, 0);
        y.holiday(0, 14608);
        due("the first day", y.day(0, 0, 4), 1);
        due("the day ahead of it", y.day(0, -1, 4), 0);
        due("the Friday at the end", y.day(0, 14608, 4), 1);
        due("it is no working day", y.day(0, 14608, 5), 0);
        due("no holiday of the other zone", y.day(1, 14608, 4), 0);
        due("a working day of the other zone", y.day(1, 14608, 5), 1);
        sentence(7, "BAD (the ZONE: for 4, 5 alone).");
        badBeside("what", () -> zones(1), 0, 5, w -> k -> k.day(0, 0, w));
        for (int what = 4; what < 6; what++) {
            int w = what;
            badBeside("of " + w + ": zone", () -> zones(2), 0, 1, z -> k -> k.day(z, 0, w));
            refused("of " + w + ": no zone", TickKeeper::new, BAD, k -> k.day(0, 0, w));
        }
        for (int zone : new int[] {-1, 0, MIN, MAX}) {
            due("no zone is asked for the year", new TickKeeper().day(zone, 0, 0), 2000);
            due("no zone is asked for the month", new TickKeeper().day(zone, 0, 1), 1);
            due("no zone is asked for the day of the month", new TickKeeper().day(zone, 0, 2), 1);
            due("no zone is asked for the weekday", new TickKeeper().day(zone, 0, 3), 5);
        }
    }

    /** The first and the last day of each month that is told whole. */
    private void endsOfMonths() {
        LocalDate day0 = LocalDate.of(2000, 1, 1);
        for (LocalDate month = LocalDate.of(1997, 5, 1); month.getYear() < 2054; month = month.plusMonths(1)) {
            TickKeeper x = new TickKeeper();
            for (LocalDate date : new LocalDate[] {month, month.plusMonths(1).minusDays(1)}) {
                int day = (int) (date.toEpochDay() - day0.toEpochDay());
                due(date + ": year", x.day(0, day, 0), date.getYear());
                due(date + ": month", x.day(0, day, 1), date.getMonthValue());
                due(date + ": day of the month", x.day(0, day, 2), date.getDayOfMonth());
                due(date + ": weekday", x.day(0, day, 3), date.getDayOfWeek().getValue() - 1);
            }
        }
    }
}
