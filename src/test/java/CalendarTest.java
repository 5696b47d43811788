import java.util.BitSet;
import java.util.Random;

/** Days against java.time, and DUE MINUTES of all 40 years against a search minute by minute. */
public final class CalendarTest {
    private static final int LAST = PlainKeeper.LAST;
    private static int wrong = 0;

    private static void due(String call, int got, int want) {
        if (got != want && wrong++ < 20) System.out.println(call + " answered " + got + ", due is " + want);
    }

    private static void everyDay() {
        TickKeeper got = new TickKeeper();
        PlainKeeper want = new PlainKeeper(0);
        for (int day = -1001; day <= 20001; day++) {
            for (int what = -1; what <= 6; what++) {
                due("day(0, " + day + ", " + what + ")", got.day(0, day, what), want.day(0, day, what));
            }
        }
    }

    /** One JOB, which has EXTRAS too, whose DUE MINUTES are told by a search through all MINUTES. */
    private static void fortyYears(long seed) {
        Random random = new Random(seed);
        TickKeeper got = new TickKeeper();
        PlainKeeper want = new PlainKeeper(LAST);
        got.zone();
        want.zone();
        got.job(0);
        want.job(0);
        int minute = random.nextInt(3) == 0 ? 0 : random.nextInt(2000000);
        for (int k = 0; k < 10 && minute <= LAST && seed % 4 != 0; k++) {
            int offset = random.nextInt(1681) - 840;
            due("shift", got.shift(0, minute, offset), want.shift(0, minute, offset));
            minute += 1 + (random.nextBoolean() ? random.nextInt(2000) : random.nextInt(4000000));
        }
        // HOLIDAYS in clusters, so that many lie side by side.
        int day = random.nextInt(14600);
        for (int k = 0; k < 20; k++) {
            due("holiday", got.holiday(0, day), want.holiday(0, day));
            day = random.nextInt(6) == 0 ? random.nextInt(14600) : Math.min(14609, day + 1 + random.nextInt(2));
        }
        for (int field = 0; field < 5; field++) {
            long bits = random.nextLong() & random.nextLong() & (field == 0 ? random.nextLong() & random.nextLong() : -1);
            if (field >= 2 && random.nextInt(3) == 0) bits = -1L;
            due("mask", got.mask(0, field, bits), want.mask(0, field, bits));
        }
        for (int k = random.nextInt(4); k > 0; k--) {
            int weekday = random.nextInt(7);
            int n = 1 + random.nextInt(6);
            due("nth", got.nth(0, weekday, n), want.nth(0, weekday, n));
        }
        int way = random.nextInt(3);
        due("onHoliday", got.onHoliday(0, way), want.onHoliday(0, way));
        BitSet ruled = want.dueOf(want.jobs.get(0));
        int at = random.nextInt(LAST);
        for (int k = 0; k < 6; k++) {
            int found = ruled.nextSetBit(at);
            if (found < 0) break;
            due("except", got.except(0, found), want.except(0, found));
            at = random.nextBoolean() ? Math.min(found + 1, LAST) : random.nextInt(LAST);
        }
        compare("seed " + seed, got, want.dueOf(want.jobs.get(0)), random);
    }

    private static void compare(String run, TickKeeper got, BitSet want, Random random) {
        int steps = 0;
        for (int at = 0; at >= 0 && at <= LAST && steps < 60000; steps++) {
            int next = want.nextSetBit(at);
            due(run + ": due(0, " + at + ")", got.due(0, at), next < 0 ? TickKeeper.NONE : next);
            at = next < 0 ? -1 : next + 1;
        }
        for (int k = 0; k < 3000; k++) {
            int from = random.nextInt(LAST + 1);
            int next = want.nextSetBit(from);
            due(run + ": due(0, " + from + ")", got.due(0, from), next < 0 ? TickKeeper.NONE : next);
            int to = (int) Math.min(LAST, from + (long) random.nextInt(k % 2 == 0 ? 3000 : 3000000));
            int i = random.nextInt(51);
            int ith = from - 1;
            for (int n = 0; n <= i && ith != TickKeeper.NONE; n++) {
                ith = want.nextSetBit(ith + 1);
                if (ith < 0 || ith > to) ith = TickKeeper.NONE;
            }
            due(run + ": between(0, " + from + ", " + to + ", " + i + ")", got.between(0, from, to, i), ith);
        }
    }

    private static void moments(long seed) {
        Random random = new Random(seed);
        TickKeeper got = new TickKeeper();
        PlainKeeper want = new PlainKeeper(0);
        got.zone();
        want.zone();
        int minute = random.nextInt(2) == 0 ? 0 : random.nextInt(3000);
        for (int k = 0; k < 10; k++) {
            int offset = random.nextInt(1681) - 840;
            due("shift", got.shift(0, minute, offset), want.shift(0, minute, offset));
            minute += 1 + random.nextInt(k == 8 ? LAST - minute - 1 : 1000);
        }
        for (int local = -1000; local < 20000; local++) {
            due("moment(0, " + local + ")", got.moment(0, local), want.moment(0, local));
        }
        for (int local = LAST - 2000; local < LAST + 2000; local++) {
            due("moment(0, " + local + ")", got.moment(0, local), want.moment(0, local));
            due("local(0, " + local + ")", got.local(0, local), want.local(0, local));
        }
    }

    public static void main(String[] args) {
        int first = args.length > 0 ? Integer.parseInt(args[0]) : 1;
        int runs = args.length > 1 ? Integer.parseInt(args[1]) : 24;
        everyDay();
        for (int seed = first; seed < first + runs; seed++) {
            if (seed < first + 6) moments(seed);
            fortyYears(seed);
        }
        System.out.println(wrong == 0 ? "all answers are as due" : wrong + " answers are not as due");
        if (wrong != 0) System.exit(1);
    }
}
