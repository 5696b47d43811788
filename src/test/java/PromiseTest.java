/** Each promise's ordinary answers, the edges that the document names, and wrong inputs. */
public final class PromiseTest {
    private static final int BAD = -1, STATE = -2, FULL = -3, NONE = -9;
    private static final int LAST = 21038399, MAX = Integer.MAX_VALUE, MIN = Integer.MIN_VALUE;
    private static final int ASK = 0, PROMISE = 1, WRITE = 2, WRITTEN = 3, REFUSE = 4, EFFECT = 5;

    private static final int[] asked = new int[35];
    private static int wrong = 0;
    private static int promise;

    private static void due(String call, int got, int want) {
        asked[promise]++;
        if (got != want) {
            wrong++;
            System.out.println("promise " + promise + ": " + call + " answered " + got + ", due is " + want);
        }
    }

    private static void row(TickKeeper x, int i, int... numbers) {
        for (int what = 0; what < 8; what++) due("letter(" + i + ", " + what + ")", x.letter(i, what), numbers[what]);
    }

    private static void registerIs(TickKeeper x, int s, int job, int... numbers) {
        for (int what = 0; what < numbers.length; what++) {
            due("register(" + s + ", " + job + ", " + what + ")", x.register(s, job, what), numbers[what]);
        }
    }

    private static void newObject() {
        TickKeeper x = new TickKeeper();
        for (int what = 0; what < 7; what++) due("count(" + what + ")", x.count(what), 0);
        due("local(0, 0)", x.local(0, 0), -1000000);
        due("job(0)", x.job(0), BAD);
        due("effects(0)", x.effects(0), BAD);
        due("register(0, 0, 0)", x.register(0, 0, 0), BAD);
        for (int s = 0; s < 3; s++) {
            due("restart", x.restart(s), STATE);
            due("wake", x.wake(s), 0);
        }
        due("desk(0, false)", x.desk(0, false), 0);
        due("desk(1, false)", x.desk(1, false), 0);
        due("flow(1)", x.flow(1), 0);
        TickKeeper other = new TickKeeper();
        other.zone();
        due("a zone of another object", x.count(1), 0);
    }

    private static void zone() {
        TickKeeper x = new TickKeeper();
        for (int z = 0; z < 3; z++) due("zone()", x.zone(), z);
        due("zone()", x.zone(), FULL);
        due("count(1)", x.count(1), 3);
    }

    private static void shift() {
        TickKeeper x = new TickKeeper();
        due("no zone", x.shift(0, 5, 5), BAD);
        x.zone();
        x.zone();
        due("zone -1", x.shift(-1, 5, 5), BAD);
        due("zone 2", x.shift(2, 5, 5), BAD);
        due("minute -1", x.shift(0, -1, 5), BAD);
        due("minute 21038400", x.shift(0, LAST + 1, 5), BAD);
        due("offset 841", x.shift(0, 5, 841), BAD);
        due("offset -841", x.shift(0, 5, -841), BAD);
        due("offset least", x.shift(0, 5, MIN), BAD);
        due("the first at 0", x.shift(0, 0, 840), 1);
        due("local(0, 0)", x.local(0, 0), 840);
        due("the same minute", x.shift(0, 0, 1), STATE);
        due("BAD ahead of STATE", x.shift(0, 0, 841), BAD);
        for (int n = 2; n <= 10; n++) due("shift " + n, x.shift(0, n, -840 + n), n);
        due("an eleventh", x.shift(0, 11, 0), FULL);
        due("STATE ahead of FULL", x.shift(0, 10, 0), STATE);
        due("BAD ahead of FULL", x.shift(0, 11, 900), BAD);
        due("nothing changed", x.local(0, 11), 11 - 830);
        due("the other zone's first", x.shift(1, LAST, -840), 1);
        due("local(1, last)", x.local(1, LAST), LAST - 840);
        due("local(1, last - 1)", x.local(1, LAST - 1), LAST - 1);
    }

    private static void holiday() {
        TickKeeper x = new TickKeeper();
        due("no zone", x.holiday(0, 5), BAD);
        x.zone();
        x.zone();
        due("day -1", x.holiday(0, -1), BAD);
        due("day 14610", x.holiday(0, 14610), BAD);
        due("zone 2", x.holiday(2, 1), BAD);
        due("zone -1", x.holiday(-1, 1), BAD);
        due("day 0", x.holiday(0, 0), 1);
        due("again", x.holiday(0, 0), 0);
        due("day 14609", x.holiday(0, 14609), 1);
        for (int n = 3; n <= 20; n++) due("holiday " + n, x.holiday(0, n * 10), 1);
        due("a 21st", x.holiday(0, 5), FULL);
        due("one that is there, in a full zone", x.holiday(0, 200), 0);
        due("BAD ahead of FULL", x.holiday(0, 14610), BAD);
        due("the 21st is none", x.day(0, 5, 4), 0);
        due("the other zone's", x.holiday(1, 5), 1);
    }

    private static void local() {
        TickKeeper x = new TickKeeper();
        due("no zone", x.local(0, 0), -1000000);
        x.zone();
        due("no shift", x.local(0, 77), 77);
        x.shift(0, 100, 60);
        x.shift(0, 200, -840);
        due("ahead of it", x.local(0, 99), 99);
        due("at it", x.local(0, 100), 160);
        due("ahead of the second", x.local(0, 199), 259);
        due("at the second", x.local(0, 200), -640);
        due("last", x.local(0, LAST), LAST - 840);
        due("minute -1", x.local(0, -1), -1000000);
        due("minute too late", x.local(0, LAST + 1), -1000000);
        due("zone 1", x.local(1, 0), -1000000);
        due("zone -1", x.local(-1, 0), -1000000);
    }

    private static void moment() {
        TickKeeper x = new TickKeeper();
        due("no zone", x.moment(0, 0), BAD);
        x.zone();
        due("below minute 0's", x.moment(0, -1), NONE);
        due("0", x.moment(0, 0), 0);
        due("last", x.moment(0, LAST), LAST);
        due("later than all", x.moment(0, LAST + 1), NONE);
        due("greatest", x.moment(0, MAX), NONE);
        due("least", x.moment(0, MIN), NONE);
        x.shift(0, 0, -300);
        due("below minute 0's, shifted", x.moment(0, -301), NONE);
        due("minute 0's, shifted", x.moment(0, -300), 0);
        x.shift(0, 1000, 300);
        due("the last ahead of the gap", x.moment(0, 699), 999);
        due("in the gap", x.moment(0, 700), 1000);
        due("in the gap, its end", x.moment(0, 1299), 1000);
        due("behind the gap", x.moment(0, 1300), 1000);
        due("behind the gap, 1", x.moment(0, 1301), 1001);
        x.shift(0, 2000, 0);
        due("told twice: the first one", x.moment(0, 2100), 1800);
        due("the last told twice", x.moment(0, 2299), 1999);
        due("the first told once", x.moment(0, 2300), 2300);
        x.shift(0, LAST, 840);
        due("the last minute leaps", x.moment(0, LAST + 840), LAST);
        due("later than all, leapt", x.moment(0, LAST + 841), NONE);
        due("zone -1", x.moment(-1, 0), BAD);
        due("greatest, shifted", x.moment(0, MAX), NONE);
        TickKeeper y = new TickKeeper();
        y.zone();
        y.shift(0, LAST - 10, -840);
        due("the highest lies ahead of the last shift", y.moment(0, LAST - 11), LAST - 11);
        due("later than all, told back", y.moment(0, LAST - 10), NONE);
    }

    private static void day() {
        TickKeeper x = new TickKeeper();
        int[][] dates = {{0, 2000, 1, 1, 5}, {-1, 1999, 12, 31, 4}, {59, 2000, 2, 29, 1}, {60, 2000, 3, 1, 2},
            {365, 2000, 12, 31, 6}, {366, 2001, 1, 1, 0}, {14609, 2039, 12, 31, 5}, {-1000, 1997, 4, 6, 6},
            {20000, 2054, 10, 4, 6}, {424, 2001, 2, 28, 2}, {425, 2001, 3, 1, 3}};
        for (int[] date : dates) {
            for (int what = 0; what < 4; what++) due("day(0, " + date[0] + ", " + what + ")", x.day(0, date[0], what), date[what + 1]);
        }
        due("the zone is not looked at", x.day(-5, 0, 0), 2000);
        due("4 looks at it", x.day(0, 0, 4), BAD);
        due("5 looks at it", x.day(0, 0, 5), BAD);
        x.zone();
        x.zone();
        x.holiday(0, 3);
        due("a holiday", x.day(0, 3, 4), 1);
        due("a holiday of the other zone", x.day(1, 3, 4), 0);
        due("none", x.day(0, 4, 4), 0);
        due("a holiday is no working day", x.day(0, 3, 5), 0);
        due("a Tuesday", x.day(1, 3, 5), 1);
        due("a Saturday", x.day(0, 0, 5), 0);
        due("a Sunday", x.day(0, 1, 5), 0);
        due("a Monday", x.day(0, 2, 5), 1);
        due("a Friday", x.day(0, -1, 5), 1);
        due("day -1001", x.day(0, -1001, 0), BAD);
        due("day 20001", x.day(0, 20001, 0), BAD);
        due("what -1", x.day(0, 0, -1), BAD);
        due("what 6", x.day(0, 0, 6), BAD);
        due("zone 2", x.day(2, 0, 4), BAD);
    }

    private static void job() {
        TickKeeper x = new TickKeeper();
        due("no zone", x.job(0), BAD);
        x.zone();
        for (int j = 0; j < 12; j++) due("job(0)", x.job(0), j);
        due("a 13th", x.job(0), FULL);
        due("BAD ahead of FULL", x.job(1), BAD);
        due("zone -1", x.job(-1), BAD);
        due("count(2)", x.count(2), 12);
        due("never due", x.due(11, 0), NONE);
        TickKeeper y = new TickKeeper();
        y.zone();
        y.zone();
        y.shift(1, 0, 60);
        y.job(1);
        Bounds.daily(y, 0, 1L, 1L);
        due("of its own zone", y.due(0, 0), 1380);
    }

    private static void mask() {
        TickKeeper x = Bounds.jobs(1);
        int[] sizes = {60, 24, 31, 12, 7};
        for (int field = 0; field < 5; field++) {
            due("all of " + field, x.mask(0, field, -1L), sizes[field]);
            due("none of " + field, x.mask(0, field, 0L), 0);
        }
        due("minute 60", x.mask(0, 0, 1L << 60), 0);
        due("minute 59", x.mask(0, 0, 1L << 59), 1);
        due("hour 24", x.mask(0, 1, 1L << 24), 0);
        due("hour 23", x.mask(0, 1, 1L << 23), 1);
        due("day 0", x.mask(0, 2, 1L), 0);
        due("day 32", x.mask(0, 2, 1L << 32), 0);
        due("day 31", x.mask(0, 2, 1L << 31), 1);
        due("month 0", x.mask(0, 3, 1L), 0);
        due("month 13", x.mask(0, 3, 1L << 13), 0);
        due("months 1, 12", x.mask(0, 3, 1L << 1 | 1L << 12), 2);
        due("weekday 7", x.mask(0, 4, 1L << 7), 0);
        due("weekday 0", x.mask(0, 4, 1L), 1);
        due("Monday, January 31, 2000, 23:59", x.due(0, 0), 30 * 1440 + 1439);
        due("a mask is put anew", x.mask(0, 0, 1L), 1);
        due("23:00 now", x.due(0, 0), 30 * 1440 + 1380);
        for (int field = 0; field < 5; field++) {
            TickKeeper y = Bounds.jobs(1);
            Bounds.daily(y, 0, -1L, -1L);
            due("all minutes", y.due(0, 77), 77);
            y.mask(0, field, 0L);
            due("none, without " + field, y.due(0, 77), NONE);
            due("none, without " + field, y.between(0, 0, LAST, 0), NONE);
        }
        due("field 5", x.mask(0, 5, 1L), BAD);
        due("field -1", x.mask(0, -1, 1L), BAD);
        due("job 1", x.mask(1, 0, 1L), BAD);
        due("job -1", x.mask(-1, 0, 1L), BAD);
    }

    private static void nth() {
        TickKeeper x = Bounds.jobs(2);
        x.mask(0, 0, 1L);
        x.mask(0, 1, 1L);
        x.mask(0, 3, 1L << 2);
        due("the fifth Tuesday", x.nth(0, 1, 5), 1);
        due("of February alone: 2000", x.due(0, 0), 59 * 1440 - 0);
        due("the next is in 2028", x.due(0, 59 * 1440 + 1), (10227 + 59) * 1440);
        due("the last Monday", x.nth(0, 0, 6), 2);
        due("February 28, 2000", x.due(0, 0), 58 * 1440);
        due("the first Tuesday", x.nth(0, 1, 1), 3);
        due("February 1, 2000", x.due(0, 0), 31 * 1440);
        due("a fourth", x.nth(0, 2, 1), FULL);
        due("BAD ahead of FULL", x.nth(0, 7, 1), BAD);
        due("the masked days go on", x.mask(0, 2, 1L << 3), 1);
        due("weekdays", x.mask(0, 4, -1L), 7);
        due("February 3, 2000", x.due(0, 31 * 1440 + 1), 33 * 1440);
        due("weekday -1", x.nth(1, -1, 1), BAD);
        due("weekday 7", x.nth(1, 7, 1), BAD);
        due("n 0", x.nth(1, 0, 0), BAD);
        due("n 7", x.nth(1, 0, 7), BAD);
        due("job 2", x.nth(2, 0, 1), BAD);
        due("job -1", x.nth(-1, 0, 1), BAD);
        due("twice", x.nth(1, 6, 6), 1);
        due("twice", x.nth(1, 6, 6), 2);
    }

    private static void except() {
        TickKeeper x = Bounds.jobs(1);
        Bounds.daily(x, 0, 1L, -1L);
        due("0", x.except(0, 0), 1);
        due("due", x.due(0, 0), 60);
        due("the same again", x.except(0, 0), 2);
        for (int n = 3; n <= 6; n++) due("exception " + n, x.except(0, (n - 2) * 60), n);
        due("due behind all", x.due(0, 0), 300);
        due("a seventh", x.except(0, 300), FULL);
        due("one that is there, when full", x.except(0, 0), FULL);
        TickKeeper all = Bounds.jobs(1);
        Bounds.daily(all, 0, 1L, -1L);
        for (int n = 0; n < 6; n++) all.except(0, n * 60);
        due("behind six", all.due(0, 0), 360);
        due("minute -1", x.except(0, -1), BAD);
        due("minute too late", x.except(0, LAST + 1), BAD);
        due("job 1", x.except(1, 0), BAD);
        due("job -1", x.except(-1, 0), BAD);
        TickKeeper y = Bounds.jobs(1);
        due("last", y.except(0, LAST), 1);
        y.except(0, 0);
        y.runNow(0);
        due("an extra is due in spite of it", y.due(0, 0), 0);
        TickKeeper z = Bounds.jobs(1);
        z.shift(0, 600, 60);
        Bounds.daily(z, 0, -1L, 1L << 10);
        due("a whole hour falls on one minute", z.due(0, 0), 600);
        due("the exception is a minute", z.except(0, 600), 1);
        due("all of the hour is excepted", z.due(0, 0), 1440 + 540);
    }

    private static void onHoliday() {
        TickKeeper x = Bounds.jobs(1);
        Bounds.daily(x, 0, 1L, 1L);
        x.mask(0, 2, 1L << 7);
        x.mask(0, 3, 1L << 1);
        due("a Friday", x.due(0, 0), 6 * 1440);
        x.holiday(0, 6);
        due("way 0", x.due(0, 0), 6 * 1440);
        due("was 0", x.onHoliday(0, 1), 0);
        due("way 1", x.due(0, 0), (366 + 6) * 1440);
        due("was 1", x.onHoliday(0, 2), 1);
        due("way 2: Monday", x.due(0, 0), 9 * 1440);
        x.holiday(0, 9);
        x.holiday(0, 10);
        due("over more holidays", x.due(0, 0), 11 * 1440);
        due("moved once alone", x.due(0, 11 * 1440 + 1), (366 + 6) * 1440);
        due("way 3", x.onHoliday(0, 3), BAD);
        due("way -1", x.onHoliday(0, -1), BAD);
        due("job 1", x.onHoliday(1, 0), BAD);
        due("job -1", x.onHoliday(-1, 0), BAD);
        due("was 2", x.onHoliday(0, 0), 2);
        TickKeeper y = Bounds.jobs(1);
        Bounds.daily(y, 0, 1L, 1L);
        y.mask(0, 2, 1L << 8);
        y.mask(0, 3, 1L << 1);
        y.onHoliday(0, 2);
        due("a Saturday that is no holiday stays", y.due(0, 0), 7 * 1440);
        y.holiday(0, 9);
        due("a holiday behind it moves nothing of it", y.due(0, 0), 7 * 1440);
        due("nor does it move itself, as it fits not", y.due(0, 7 * 1440 + 1), (366 + 7) * 1440);
        y.holiday(0, 7);
        due("a Saturday that is one moves", y.due(0, 0), 10 * 1440);
        y.holiday(0, 30);
        y.mask(0, 2, 1L << 31);
        due("into a month that is not in the mask", y.due(0, 0), 31 * 1440);
        due("and from there on", y.due(0, 31 * 1440), 31 * 1440);
        due("and not behind it", y.due(0, 31 * 1440 + 1), (366 + 30) * 1440);
        y.onHoliday(0, 1);
        y.holiday(0, 366);
        y.mask(0, 2, 1L << 1 | 1L << 31);
        due("the first of a month is off", y.due(0, 1), (366 + 30) * 1440);
        y.mask(0, 2, 1L << 1);
        y.mask(0, 3, 1L << 1 | 1L << 3);
        y.holiday(0, 60);
        due("those of other months are not", y.due(0, 1), (366 + 59) * 1440);
        TickKeeper z = Bounds.jobs(1);
        z.mask(0, 0, 1L);
        z.mask(0, 1, 1L);
        z.mask(0, 3, 1L << 2);
        z.nth(0, 0, 6);
        z.onHoliday(0, 2);
        z.holiday(0, 58);
        due("one of the nths moves, too", z.due(0, 0), 59 * 1440);
    }

    private static void catchUp() {
        TickKeeper x = Bounds.hourly(1);
        due("mode 0", x.catchUp(0, 0, 0), 1);
        due("mode 2, 1440", x.catchUp(0, 2, 1440), 1);
        due("mode 3", x.catchUp(0, 3, 0), BAD);
        due("mode -1", x.catchUp(0, -1, 0), BAD);
        due("lateness 1441", x.catchUp(0, 0, 1441), BAD);
        due("lateness -1", x.catchUp(0, 0, -1), BAD);
        due("job 1", x.catchUp(1, 0, 0), BAD);
        due("job -1", x.catchUp(-1, 0, 0), BAD);
        int[][] cases = {
            // mode, lateness, now, effected (or NONE), passed, up to
            {0, 0, 120, 120, 1, 120}, {0, 0, 121, NONE, 1, 121}, {0, 1, 121, 120, 1, 120}, {0, 120, 130, 60, 1, 60},
            {0, 130, 130, 0, 0, 0}, {0, 1440, 0, 0, 0, 0}, {1, 1440, 130, 120, 1, 120}, {1, 10, 130, 120, 1, 120},
            {1, 9, 130, NONE, 1, 130}, {1, 1440, 59, 0, 0, 0}, {2, 1440, 120, 120, 1, 120}, {2, 1440, 130, NONE, 1, 130},
            {2, 0, 0, 0, 0, 0}, {1, 1440, 5000, 4980, 1, 4980}};
        for (int[] c : cases) {
            TickKeeper y = Bounds.hourly(1);
            String name = "mode " + c[0] + ", lateness " + c[1] + ", now " + c[2];
            y.catchUp(0, c[0], c[1]);
            y.now(c[2]);
            y.wake(1);
            y.flow(50);
            due(name + ": effect", y.effect(0, 0, 0), c[3]);
            due(name + ": guard", y.effect(0, 0, 1), c[3] == NONE ? NONE : 1);
            due(name + ": passed", y.passed(0), c[4]);
            due(name + ": up to", y.register(0, 0, 2), c[5]);
            due(name + ": guard", y.register(2, 0, 3), c[3] == NONE ? 0 : 1);
        }
        TickKeeper fresh = Bounds.jobs(1);
        Bounds.daily(fresh, 0, 1L, -1L);
        fresh.now(61);
        fresh.wake(0);
        fresh.flow(50);
        due("at first all, but not late", fresh.effects(0), 0);
    }

    private static void after() {
        TickKeeper x = Bounds.jobs(6);
        due("itself", x.after(0, 0), STATE);
        due("0 after 1", x.after(0, 1), 1);
        due("again", x.after(0, 1), STATE);
        due("1 after 0", x.after(1, 0), STATE);
        due("1 after 2", x.after(1, 2), 1);
        due("2 after 3", x.after(2, 3), 1);
        due("3 after 0, by steps", x.after(3, 0), STATE);
        due("0 after 3, by steps too, is fine", x.after(0, 3), 2);
        due("0 after 4", x.after(0, 4), 3);
        due("0 after 5", x.after(0, 5), FULL);
        due("STATE ahead of FULL", x.after(0, 4), STATE);
        due("BAD ahead of FULL", x.after(0, 6), BAD);
        due("job 6", x.after(6, 0), BAD);
        due("job -1", x.after(-1, 0), BAD);
        due("other -1", x.after(0, -1), BAD);
        due("5 after 0", x.after(5, 0), 1);
    }

    private static void pause() {
        TickKeeper x = Bounds.hourly(1);
        due("on", x.pause(0, true), 0);
        due("on again", x.pause(0, true), 1);
        due("not woken", x.wake(0), 0);
        due("still due", x.due(0, 0), 0);
        due("off", x.pause(0, false), 1);
        due("off again", x.pause(0, false), 0);
        due("woken", x.wake(0), 1);
        x.pause(0, true);
        due("a run is not begun anew", x.wake(0), 0);
        due("it asks still", x.register(0, 0, 4), 3);
        due("asks and promises", x.flow(4), 4);
        due("its run ends when it decides", x.count(4), 0);
        due("nothing was written", x.count(3), 0);
        due("job 1", x.pause(1, true), BAD);
        due("job -1", x.pause(-1, true), BAD);
    }

    private static void dueMinutes() {
        TickKeeper x = Bounds.jobs(2);
        Bounds.daily(x, 0, 1L << 59, 1L << 23);
        due("from 0", x.due(0, 0), 1439);
        due("from it", x.due(0, 1439), 1439);
        due("behind it", x.due(0, 1440), 2879);
        due("last", x.due(0, LAST), LAST);
        due("none", x.due(1, 0), NONE);
        due("from -1", x.due(0, -1), BAD);
        due("from too late", x.due(0, LAST + 1), BAD);
        due("job 2", x.due(2, 0), BAD);
        due("job -1", x.due(-1, 0), BAD);
        Bounds.daily(x, 0, 1L, 1L);
        due("none behind the last", x.due(0, LAST), NONE);
        x.mask(0, 2, 1L << 30);
        x.mask(0, 3, 1L << 2);
        due("February 30", x.due(0, 0), NONE);
        x.shift(0, 0, -60);
        Bounds.daily(x, 1, 1L, -1L);
        due("December 31, 1999", x.due(1, 0), 0);
        x.mask(1, 3, 1L << 12);
        due("until 0:59", x.due(1, 1), (335 * 1440) + 60);
        x.shift(0, 10000, 0);
        x.mask(1, 3, -1L);
        due("ahead of the gap", x.due(1, 9900), 9900);
        due("the gap's minute", x.due(1, 9961), 10000);
        due("once alone", x.due(1, 10001), 10020);
        x.shift(0, 20000, -120);
        due("told back", x.due(1, 19981), 20160);
    }

    private static void between() {
        TickKeeper x = Bounds.jobs(1);
        Bounds.daily(x, 0, -1L, 1L);
        due("0", x.between(0, 10, 20, 0), 10);
        due("10", x.between(0, 10, 20, 10), 20);
        due("11", x.between(0, 10, 20, 11), NONE);
        due("50", x.between(0, 0, LAST, 50), 50);
        due("51", x.between(0, 0, LAST, 51), BAD);
        due("-1", x.between(0, 0, LAST, -1), BAD);
        due("one minute", x.between(0, 59, 59, 0), 59);
        due("none", x.between(0, 60, 1439, 0), NONE);
        due("no minutes", x.between(0, 20, 10, 0), NONE);
        due("a -1", x.between(0, -1, 10, 0), BAD);
        due("b too late", x.between(0, 0, LAST + 1, 0), BAD);
        due("a too late", x.between(0, LAST + 1, LAST + 1, 0), BAD);
        due("b -1", x.between(0, 0, -1, 0), BAD);
        due("job 1", x.between(1, 0, 10, 0), BAD);
        due("job -1", x.between(-1, 0, 10, 0), BAD);
        x.shift(0, 30, 20);
        due("minutes in a gap count once", x.between(0, 28, 40, 3), 31);
        x.except(0, 30);
        due("exceptions do not", x.between(0, 28, 40, 2), 31);
    }

    private static void runNow() {
        TickKeeper x = Bounds.jobs(1);
        due("job 1", x.runNow(1), BAD);
        due("job -1", x.runNow(-1), BAD);
        x.now(7);
        due("an extra", x.runNow(0), 1);
        due("it is due", x.due(0, 0), 7);
        due("it is not claimed yet", x.runNow(0), STATE);
        x.wake(2);
        x.flow(50);
        due("effected", x.effect(0, 0, 0), 7);
        due("a minute not below now was effected", x.runNow(0), STATE);
        for (int n = 2; n <= 8; n++) {
            x.now(7 * n);
            due("extra " + n, x.runNow(0), n);
            x.wake(n % 3);
            x.flow(50);
            due("effects", x.effects(0), n);
        }
        x.now(100);
        due("a ninth", x.runNow(0), FULL);
        TickKeeper y = Bounds.hourly(1);
        y.now(30);
        due("minute 0 is due", y.runNow(0), STATE);
        y.wake(0);
        y.deliver(0);
        y.deliver(1);
        due("one register has it", y.register(0, 0, 2), 0);
        due("not above all three now", y.runNow(0), 1);
        due("due", y.due(0, 1), 30);
        y.flow(50);
        due("one that is due up to now", y.runNow(0), STATE);
        TickKeeper z = Bounds.hourly(1);
        z.except(0, 0);
        due("none is due yet", z.runNow(0), 1);
    }

    private static void now() {
        TickKeeper x = new TickKeeper();
        due("stays", x.now(0), 1);
        due("on", x.now(5), 1);
        due("stays", x.now(5), 1);
        due("back", x.now(4), STATE);
        due("-1", x.now(-1), BAD);
        due("too late", x.now(LAST + 1), BAD);
        due("count(0)", x.count(0), 5);
        due("last", x.now(LAST), 1);
        due("count(0)", x.count(0), LAST);
    }

    private static void wake() {
        TickKeeper x = Bounds.hourly(3);
        due("scheduler 3", x.wake(3), BAD);
        due("scheduler -1", x.wake(-1), BAD);
        x.pause(1, true);
        due("two jobs", x.wake(1), 2);
        due("letters", x.count(3), 4);
        row(x, 0, ASK, 1, 0, 0, 4, 0, 0, 0);
        row(x, 1, ASK, 1, 2, 0, 4, 0, 0, 0);
        row(x, 2, ASK, 1, 0, 2, 4, 0, 0, 0);
        registerIs(x, 1, 0, 4, 0, -1, 0, 4, 1, NONE);
        registerIs(x, 1, 1, 0, 0, -1, 0, 0, 0, NONE);
        due("anew", x.wake(1), 2);
        registerIs(x, 1, 0, 7, 0, -1, 0, 7, 1, NONE);
        due("runs", x.count(4), 2);
        x.crash(1);
        due("down", x.wake(1), STATE);
        TickKeeper y = Bounds.hourly(1);
        y.wake(2);
        y.flow(50);
        due("ballot 5", y.register(2, 0, 0), 5);
        due("nothing more is due", y.wake(2), 0);
        y.now(60);
        y.wake(0);
        due("the least above 5", y.register(0, 0, 4), 6);
        y.wake(2);
        due("the least above 5 of 2", y.register(2, 0, 4), 8);
        y.flow(50);
        due("the higher one did it", y.effect(0, 1, 0), 60);
        due("once", y.effects(0), 2);
        TickKeeper z = Bounds.hourly(1);
        z.now(30);
        z.wake(0);
        z.except(0, 0);
        due("a run begins anew though nothing is due", z.wake(0), 1);
        z.flow(50);
        due("and ends", z.count(4), 0);
        due("then none begins", z.wake(0), 0);
    }

    private static void deliver() {
        TickKeeper x = Bounds.hourly(1);
        due("none", x.deliver(0), BAD);
        x.wake(0);
        due("-1", x.deliver(-1), BAD);
        due("2", x.deliver(2), BAD);
        due("the second", x.deliver(1), ASK);
        row(x, 0, ASK, 0, 1, 0, 3, 0, 0, 0);
        row(x, 1, PROMISE, 2, 0, 0, 3, 0, -1, 0);
        due("promise", x.deliver(1), PROMISE);
        registerIs(x, 0, 0, 3, 3, 0, 1, 3, 2, 0);
        row(x, 1, WRITE, 0, 1, 0, 3, 0, 0, 1);
        row(x, 2, WRITE, 0, 2, 0, 3, 0, 0, 1);
        due("the late ask", x.deliver(0), ASK);
        due("the late promise", x.deliver(2), PROMISE);
        due("does nothing", x.count(3), 2);
        due("write", x.deliver(0), WRITE);
        registerIs(x, 1, 0, 3, 3, 0, 1);
        row(x, 1, WRITTEN, 1, 0, 0, 3, 0, 0, 0);
        due("written", x.deliver(1), WRITTEN);
        due("the run ends", x.register(0, 0, 4), 0);
        row(x, 1, EFFECT, 0, 0, 0, 1, 0, 0, 0);
        due("effect", x.deliver(1), EFFECT);
        due("effected", x.effects(0), 1);
        due("the other write", x.deliver(0), WRITE);
        due("the late written", x.deliver(0), WRITTEN);
        due("does nothing", x.count(3), 0);
        refusals();
        twinsAndReading();
    }

    private static void refusals() {
        TickKeeper x = Bounds.hourly(1);
        x.wake(2);
        x.deliver(0);
        x.lose(0);
        x.lose(0);
        x.wake(0);
        registerIs(x, 0, 0, 6, 0, -1, 0, 6, 1, NONE);
        x.deliver(1);
        x.lose(0);
        x.lose(0);
        x.wake(1);
        registerIs(x, 1, 0, 4, 0, -1, 0, 4, 1, NONE);
        x.deliver(1);
        row(x, 1, REFUSE, 2, 1, 0, 4, 6, 0, 0);
        due("refuse", x.deliver(1), REFUSE);
        due("the run ended", x.register(1, 0, 4), 0);
        due("the promised one stays", x.register(1, 0, 0), 4);
        x.wake(1);
        due("above what it was refused by", x.register(1, 0, 4), 7);
        x.crash(1);
        x.restart(1);
        x.wake(1);
        due("above its promised one", x.register(1, 0, 4), 10);

        for (int crashes = 0; crashes < 2; crashes++) {
            TickKeeper y = Bounds.hourly(1);
            y.wake(2);
            y.wake(2);
            y.deliver(2);
            while (y.count(3) > 0) y.lose(0);
            y.wake(1);
            y.deliver(0);
            due("refused by 0, promised 8", y.letter(1, 5), 8);
            due("refuse", y.deliver(1), REFUSE);
            if (crashes == 1) {
                y.crash(1);
                y.restart(1);
            }
            y.wake(1);
            due("a crash forgets refusals", y.register(1, 0, 4), crashes == 1 ? 7 : 10);
        }

        TickKeeper z = Bounds.hourly(1);
        z.wake(0);
        z.deliver(0);
        z.deliver(1);
        z.wake(1);
        z.deliver(4);
        due("a write below the promised one", z.deliver(1), WRITE);
        row(z, 3, PROMISE, 2, 1, 0, 4, 0, -1, 0);
        row(z, 4, REFUSE, 1, 0, 0, 3, 4, 0, 0);
        registerIs(z, 1, 0, 4, 0, -1, 0, 4, 1, NONE);
        due("refuse", z.deliver(4), REFUSE);
        due("a run that writes ends, too", z.register(0, 0, 5), 0);
        registerIs(z, 0, 0, 3, 3, 0, 1, 0, 0, NONE);
    }

    private static void twinsAndReading() {
        TickKeeper x = Bounds.hourly(1);
        x.wake(0);
        x.twin(0);
        x.deliver(0);
        x.deliver(1);
        row(x, 2, REFUSE, 1, 0, 0, 3, 3, 0, 0);
        x.deliver(2);
        due("a twin ask is refused, and that ends the run", x.count(4), 0);
        x.deliver(1);
        due("so the promise does nothing", x.count(3), 1);

        TickKeeper y = Bounds.hourly(1);
        y.now(60);
        y.wake(0);
        y.deliver(0);
        y.deliver(1);
        registerIs(y, 0, 0, 3, 3, 0, 1, 3, 2, 0);
        while (y.count(3) > 0) y.lose(0);
        y.crash(0);
        y.wake(2);
        y.flow(50);
        registerIs(y, 2, 0, 5, 5, 0, 1, 0, 0, NONE);
        due("the value that one alone had is not read", y.effect(0, 0, 0), 0);
        y.restart(0);
        y.wake(2);
        y.deliver(0);
        row(y, 1, PROMISE, 0, 2, 0, 8, 3, 0, 1);
        y.deliver(1);
        due("its own is the higher one", y.register(2, 0, 6), 60);
        due("guard", y.register(2, 0, 3), 2);
        y.flow(50);
        y.wake(0);
        due("nothing is due of its own register", y.register(0, 0, 2), 60);

        TickKeeper z = Bounds.hourly(1);
        z.now(60);
        z.crash(2);
        z.wake(0);
        z.flow(50);
        z.restart(2);
        z.wake(2);
        z.deliver(0);
        row(z, 1, PROMISE, 0, 2, 0, 5, 3, 0, 1);
        z.deliver(1);
        registerIs(z, 2, 0, 5, 5, 60, 2, 5, 2, 60);
        z.now(61);
        z.wake(1);
        z.wake(1);
        z.deliver(6);
        registerIs(z, 2, 0, 7, 5, 60, 2, 5, 2, 60);
        z.deliver(1);
        due("the answer of the other one", z.deliver(6), WRITTEN);
        due("its own promise is raised, yet what it writes is done", z.letter(6, 0), EFFECT);

        TickKeeper v = Bounds.hourly(1);
        v.now(60);
        v.wake(0);
        v.deliver(0);
        v.deliver(1);
        v.deliver(1);
        row(v, 2, WRITTEN, 1, 0, 0, 3, 0, 0, 0);
        v.wake(0);
        v.deliver(3);
        v.deliver(4);
        registerIs(v, 0, 0, 6, 6, 60, 2, 6, 2, 60);
        due("an answer to the run ahead of it", v.deliver(2), WRITTEN);
        registerIs(v, 0, 0, 6, 6, 60, 2, 6, 2, 60);
        v.flow(50);
        due("so its minute is not done", v.effect(0, 0, 0), 60);

        TickKeeper w = Bounds.hourly(1);
        w.wake(0);
        w.deliver(0);
        w.wake(1);
        w.deliver(2);
        registerIs(w, 0, 0, 4, 0, -1, 0, 3, 1, NONE);
        w.deliver(1);
        registerIs(w, 0, 0, 4, 0, -1, 0, 0, 0, NONE);
    }

    private static void flow() {
        TickKeeper x = Bounds.hourly(1);
        due("0", x.flow(0), BAD);
        due("51", x.flow(51), BAD);
        due("-1", x.flow(-1), BAD);
        due("none", x.flow(1), 0);
        x.wake(0);
        due("one", x.flow(1), 1);
        due("the ask was the first", x.letter(0, 2), 2);
        due("two", x.flow(2), 2);
        due("also those that come meanwhile", x.flow(50), 6);
        due("all done", x.effects(0), 1);
        TickKeeper y = Bounds.hourly(12);
        y.wake(0);
        due("50 at most", y.flow(50), 50);
        due("the rest waits", y.count(3) > 0 ? 1 : 0, 1);
    }

    private static void lose() {
        TickKeeper x = Bounds.hourly(1);
        due("none", x.lose(0), BAD);
        x.wake(0);
        due("-1", x.lose(-1), BAD);
        due("2", x.lose(2), BAD);
        due("the first", x.lose(0), ASK);
        due("the other stays", x.letter(0, 2), 2);
        due("it did nothing", x.register(1, 0, 0), 0);
        due("it is not one for want of room", x.count(5), 0);
        x.flow(1);
        due("a promise", x.lose(0), PROMISE);
        due("none is left", x.count(3), 0);
    }

    private static void twin() {
        TickKeeper x = Bounds.hourly(12);
        due("none", x.twin(0), BAD);
        x.wake(0);
        due("24 letters", x.count(3), 24);
        due("-1", x.twin(-1), BAD);
        due("24", x.twin(24), BAD);
        due("the fourth", x.twin(3), 25);
        row(x, 24, ASK, 0, 2, 1, 3, 0, 0, 0);
        row(x, 3, ASK, 0, 2, 1, 3, 0, 0, 0);
        for (int n = 26; n <= 60; n++) due("twin", x.twin(n % 24), n);
        due("full", x.twin(0), FULL);
        due("BAD ahead of FULL", x.twin(60), BAD);
        due("none was lost", x.count(5), 0);
        x.wake(0);
        due("no room for 24", x.count(5), 24);
        due("60 wait", x.count(3), 60);
        due("the runs began all the same", x.count(4), 12);
        due("an answer has the room of what it answers", x.deliver(0), ASK);
        row(x, 59, PROMISE, 1, 0, 0, 3, 0, -1, 0);
        due("24 still", x.count(5), 24);
        TickKeeper y = Bounds.hourly(1);
        y.wake(0);
        y.flow(8);
        due("effect", y.letter(y.count(3) - 1, 0), EFFECT);
        y.twin(y.count(3) - 1);
        y.flow(50);
        due("once at most", y.effects(0), 1);
        due("the twin is refused", y.count(6), 1);
    }

    private static void letter() {
        TickKeeper x = Bounds.hourly(2);
        due("none", x.letter(0, 0), BAD);
        x.now(60);
        x.wake(2);
        row(x, 0, ASK, 2, 0, 0, 5, 0, 0, 0);
        row(x, 3, ASK, 2, 1, 1, 5, 0, 0, 0);
        due("-1", x.letter(-1, 0), BAD);
        due("4", x.letter(4, 0), BAD);
        due("what -1", x.letter(0, -1), BAD);
        due("what 8", x.letter(0, 8), BAD);
        due("what greatest", x.letter(0, MAX), BAD);
        due("i greatest", x.letter(MAX, 0), BAD);
        x.flow(4);
        row(x, 2, PROMISE, 0, 2, 1, 5, 0, -1, 0);
        x.flow(4);
        row(x, 0, WRITE, 2, 0, 0, 5, 0, 0, 1);
        row(x, 3, WRITE, 2, 1, 1, 5, 0, 0, 1);
        x.flow(4);
        row(x, 2, WRITTEN, 0, 2, 1, 5, 0, 0, 0);
        x.flow(4);
        row(x, 0, EFFECT, 2, 0, 0, 1, 0, 0, 0);
        row(x, 1, EFFECT, 2, 1, 1, 1, 0, 0, 0);
        x.flow(2);
        x.wake(0);
        x.deliver(1);
        row(x, 3, PROMISE, 2, 0, 0, 6, 5, 0, 1);
        x.deliver(3);
        row(x, 3, WRITE, 0, 1, 0, 6, 60, 0, 2);
        x.deliver(4);
        x.deliver(4);
        row(x, 4, EFFECT, 0, 0, 0, 2, 60, 0, 0);
    }

    private static void crash() {
        TickKeeper x = Bounds.hourly(3);
        due("scheduler 3", x.crash(3), BAD);
        due("scheduler -1", x.crash(-1), BAD);
        x.wake(0);
        x.wake(1);
        due("three runs", x.crash(0), 3);
        due("the other's stay", x.count(4), 3);
        due("down", x.crash(0), STATE);
        registerIs(x, 0, 0, 3, 0, -1, 0, 0, 0, NONE);
        due("letters stay", x.count(3), 12);
        due("those to it are lost", x.flow(50) > 0 ? 1 : 0, 1);
        registerIs(x, 0, 2, 3, 0, -1, 0, 0, 0, NONE);
        due("two are enough", x.effects(2), 1);
        due("no want of room", x.count(5), 0);
        due("no run", x.crash(1), 0);
        registerIs(x, 1, 1, 4, 4, 0, 1, 0, 0, NONE);
        TickKeeper y = Bounds.hourly(1);
        y.wake(0);
        y.flow(2);
        y.crash(0);
        y.restart(0);
        y.flow(50);
        due("its promises come too late", y.effects(0), 0);
        registerIs(y, 0, 0, 3, 0, -1, 0, 0, 0, NONE);
    }

    private static void restart() {
        TickKeeper x = Bounds.hourly(1);
        due("up", x.restart(1), STATE);
        due("scheduler 3", x.restart(3), BAD);
        due("scheduler -1", x.restart(-1), BAD);
        x.wake(1);
        x.flow(50);
        x.crash(1);
        due("down", x.restart(1), 1);
        due("up", x.restart(1), STATE);
        registerIs(x, 1, 0, 4, 4, 0, 1, 0, 0, NONE);
        x.now(60);
        due("it wakes", x.wake(1), 1);
        due("above its promised one", x.register(1, 0, 4), 7);
    }

    private static void desk() {
        TickKeeper x = Bounds.hourly(2);
        due("desk 2", x.desk(2, true), BAD);
        due("desk -1", x.desk(-1, true), BAD);
        due("down", x.desk(1, true), 0);
        due("still", x.desk(1, true), 1);
        x.wake(0);
        x.flow(50);
        due("job 0's desk is up", x.effects(0), 1);
        due("job 1's is down", x.effects(1), 0);
        due("that is no refusal", x.count(6), 0);
        due("up", x.desk(1, false), 1);
        due("up again", x.desk(1, false), 0);
        x.now(60);
        x.wake(1);
        x.flow(50);
        due("the lost one is not made good", x.effect(1, 0, 0), 60);
        due("its guard", x.effect(1, 0, 1), 2);
    }

    private static void register() {
        TickKeeper x = Bounds.hourly(1);
        due("scheduler 3", x.register(3, 0, 0), BAD);
        due("scheduler -1", x.register(-1, 0, 0), BAD);
        due("job 1", x.register(0, 1, 0), BAD);
        due("job -1", x.register(0, -1, 0), BAD);
        due("what 7", x.register(0, 0, 7), BAD);
        due("what -1", x.register(0, 0, -1), BAD);
        registerIs(x, 0, 0, 0, 0, -1, 0, 0, 0, NONE);
        x.now(61);
        x.catchUp(0, 0, 0);
        x.wake(0);
        registerIs(x, 0, 0, 3, 0, -1, 0, 3, 1, NONE);
        x.flow(4);
        registerIs(x, 0, 0, 3, 3, 61, 0, 3, 2, NONE);
        registerIs(x, 1, 0, 3, 0, -1, 0, 0, 0, NONE);
        x.flow(50);
        registerIs(x, 1, 0, 3, 3, 61, 0, 0, 0, NONE);
        x.now(120);
        x.wake(0);
        x.flow(4);
        registerIs(x, 0, 0, 6, 6, 120, 1, 6, 2, 120);
    }

    private static void effects() {
        TickKeeper x = Bounds.hourly(2);
        due("job 2", x.effects(2), BAD);
        due("job -1", x.effects(-1), BAD);
        due("none", x.effects(0), 0);
        x.pause(1, true);
        for (int n = 1; n <= 40; n++) {
            x.now(60 * n);
            x.wake(n % 3);
            x.flow(50);
            due("effects", x.effects(0), n);
        }
        due("the other's", x.effects(1), 0);
    }

    private static void effect() {
        TickKeeper x = Bounds.hourly(1);
        due("none such", x.effect(0, 0, 0), NONE);
        for (int n = 0; n < 20; n++) {
            x.now(60 * n);
            x.wake(n % 3);
            x.flow(50);
        }
        for (int n = 0; n < 20; n++) {
            due("minute", x.effect(0, n, 0), 60 * n);
            due("guard", x.effect(0, n, 1), n + 1);
        }
        due("20", x.effect(0, 20, 0), NONE);
        due("-1", x.effect(0, -1, 1), NONE);
        due("greatest", x.effect(0, MAX, 1), NONE);
        due("what 2", x.effect(0, 0, 2), BAD);
        due("what -1", x.effect(0, 0, -1), BAD);
        due("job 1", x.effect(1, 0, 0), BAD);
        due("job -1", x.effect(-1, 0, 0), BAD);
        due("BAD ahead of NONE", x.effect(0, 20, 2), BAD);
    }

    private static void waiting() {
        TickKeeper x = Bounds.hourly(4);
        due("job 4", x.waiting(4), BAD);
        due("job -1", x.waiting(-1), BAD);
        due("at first", x.waiting(3), 0);
        x.after(3, 0);
        x.after(3, 2);
        x.pause(0, true);
        x.pause(2, true);
        x.wake(0);
        x.flow(50);
        due("for both", x.waiting(3), 5);
        due("nothing done", x.effects(3), 0);
        due("nothing written", x.register(0, 3, 1), 0);
        due("the others have no waits", x.waiting(1), 0);
        x.pause(0, false);
        x.wake(0);
        x.flow(50);
        due("it decided ahead of the effect", x.waiting(3), 5);
        x.wake(0);
        x.flow(50);
        due("for the other one alone", x.waiting(3), 4);
        x.pause(2, false);
        x.wake(1);
        x.flow(50);
        x.wake(1);
        x.flow(50);
        due("for none", x.waiting(3), 0);
        due("done", x.effects(3), 1);
        x.now(60);
        x.pause(3, true);
        x.wake(1);
        x.flow(50);
        x.pause(3, false);
        x.wake(2);
        x.flow(50);
        due("any effect of the day will do", x.effects(3), 2);
        waitingByDays();
    }

    private static void waitingByDays() {
        // Job 1 is of a ZONE that is 10 hours ahead: 14:00 is its next day.
        TickKeeper x = new TickKeeper();
        x.zone();
        x.zone();
        x.shift(1, 0, 600);
        x.job(0);
        x.job(1);
        Bounds.daily(x, 0, 1L, -1L);
        Bounds.daily(x, 1, 1L, 1L << 12);
        x.mask(1, 4, 1L << 6);
        x.catchUp(0, 1, 1440);
        x.after(0, 1);
        x.now(13 * 60);
        x.wake(0);
        x.flow(50);
        due("the other has no due minute of its Saturday", x.effects(0), 1);
        x.now(14 * 60);
        x.wake(0);
        x.flow(50);
        due("its Sunday has one", x.waiting(0), 2);
        x.now(26 * 60);
        x.wake(0);
        x.flow(50);
        due("still", x.waiting(0), 2);
        due("it is done meanwhile", x.effect(1, 0, 0), 26 * 60);
        x.pause(0, true);
        x.now(38 * 60);
        x.pause(0, false);
        x.wake(0);
        x.flow(50);
        due("its Monday has none", x.waiting(0), 0);
        due("done", x.effect(0, 1, 0), 38 * 60);
        // What it claims is nothing, so it WAITS for nothing.
        x.catchUp(0, 2, 0);
        x.now(38 * 60 + 61);
        x.wake(0);
        x.flow(50);
        due("nothing claimed", x.waiting(0), 0);

        // The first and the last minute of a LOCAL day, and those beside them.
        int[][] cases = {{1439, 0}, {1440, 1}, {2879, 1}, {2880, 0}};
        for (int[] c : cases) {
            TickKeeper y = Bounds.jobs(2);
            y.after(1, 0);
            Bounds.daily(y, 0, 1L << c[0] % 60, 1L << c[0] / 60 % 24);
            y.mask(0, 2, 1L << c[0] / 1440 + 1);
            due("the other's", y.due(0, 0), c[0]);
            y.pause(0, true);
            Bounds.daily(y, 1, 1L, -1L);
            y.catchUp(1, 1, 1440);
            y.now(2879);
            y.wake(0);
            y.flow(50);
            due("a due minute at " + c[0], y.waiting(1), c[1]);
            due("claimed", y.effects(1), 1 - c[1]);
        }

        // A LOCAL day that comes back: day 1 begins at 1440, is left at 1500 and comes again at 2160.
        TickKeeper y = Bounds.jobs(2);
        y.shift(0, 1500, -720);
        Bounds.daily(y, 0, 1L << 30, 1L << 20);
        y.mask(0, 2, 1L << 2);
        Bounds.daily(y, 1, 1L, 1L << 0);
        y.mask(1, 2, 1L << 2);
        y.after(1, 0);
        y.now(1440);
        y.wake(0);
        y.flow(50);
        due("its due minute lies in the day's second part", y.due(0, 0), 1440 + 1230 + 720);
        due("it is waited for", y.waiting(1), 1);
    }

    private static void passed() {
        TickKeeper x = Bounds.hourly(1);
        due("job 1", x.passed(1), BAD);
        due("job -1", x.passed(-1), BAD);
        due("at first", x.passed(0), 0);
        x.wake(0);
        x.flow(50);
        due("nothing was passed over", x.passed(0), 0);
        x.catchUp(0, 1, 1440);
        x.now(400);
        x.wake(0);
        x.flow(4);
        due("not before it is written", x.passed(0), 0);
        x.flow(50);
        due("five at once", x.passed(0), 1);
        x.catchUp(0, 2, 0);
        x.now(425);
        x.wake(0);
        x.flow(50);
        due("without a minute", x.passed(0), 2);
        due("one effect each", x.effects(0), 2);
        x.now(440);
        due("nothing is due", x.wake(0), 0);
        x.now(480);
        x.wake(0);
        x.flow(50);
        due("now is claimed", x.passed(0), 2);
        due("three", x.effects(0), 3);
    }

    private static void count() {
        TickKeeper x = Bounds.hourly(2);
        due("what 7", x.count(7), BAD);
        due("what -1", x.count(-1), BAD);
        x.now(3);
        due("now", x.count(0), 3);
        due("zones", x.count(1), 1);
        due("jobs", x.count(2), 2);
        x.wake(0);
        x.wake(1);
        due("letters", x.count(3), 8);
        due("runs", x.count(4), 4);
        for (int n = 0; n < 12; n++) x.wake(2);
        due("letters", x.count(3), 56);
        due("runs", x.count(4), 6);
        x.wake(0);
        due("room for all", x.count(5), 0);
        x.wake(1);
        due("room for none", x.count(5), 4);
        while (x.count(3) > 0) x.lose(0);
        x.wake(2);
        x.flow(16);
        for (int i = x.count(3) - 1; i >= 0; i--) x.twin(i);
        x.flow(50);
        due("effects", x.effects(0) + x.effects(1), 2);
        due("refused", x.count(6), 2);
        x.desk(0, true);
        due("down", x.count(6), 2);
    }

    private static void constants() {
        due("BAD", TickKeeper.BAD, BAD);
        due("STATE", TickKeeper.STATE, STATE);
        due("FULL", TickKeeper.FULL, FULL);
        due("NONE", TickKeeper.NONE, NONE);
    }

    public static void main(String[] args) {
        Runnable[] tests = {
            PromiseTest::constants, PromiseTest::newObject, PromiseTest::zone, PromiseTest::shift, PromiseTest::holiday,
            PromiseTest::local, PromiseTest::moment, PromiseTest::day, PromiseTest::job, PromiseTest::mask,
            PromiseTest::nth, PromiseTest::except, PromiseTest::onHoliday, PromiseTest::catchUp, PromiseTest::after,
            PromiseTest::pause, PromiseTest::dueMinutes, PromiseTest::between, PromiseTest::runNow, PromiseTest::now,
            PromiseTest::wake, PromiseTest::deliver, PromiseTest::flow, PromiseTest::lose, PromiseTest::twin,
            PromiseTest::letter, PromiseTest::crash, PromiseTest::restart, PromiseTest::desk, PromiseTest::register,
            PromiseTest::effects, PromiseTest::effect, PromiseTest::waiting, PromiseTest::passed, PromiseTest::count};
        for (promise = 0; promise < tests.length; promise++) tests[promise].run();
        for (int p = 0; p < asked.length; p++) {
            if (asked[p] == 0) {
                wrong++;
                System.out.println("promise " + p + " has no test");
            }
        }
        System.out.println(wrong == 0 ? "all answers are as due" : wrong + " answers are not as due");
        if (wrong != 0) System.exit(1);
    }
}
