import java.util.Arrays;
import java.util.Random;

/** Runs of 512 calls, the same each time, on TickKeeper and on PlainKeeper: each answer has to be the same. */
public final class RandomRunsTest {
    private static final int RUNS = 800, CALLS = 512, HORIZON = 14000;
    private static final int[] ODD = {-1, -9, 3, 12, 60, Integer.MIN_VALUE, Integer.MAX_VALUE, 21038400, 1000};

    private static int wrong = 0;
    private static final int[] effectsByMode = new int[3];
    private static long waits, passes, refusals, lost;

    private final Random random;
    private final TickKeeper got = new TickKeeper();
    private final PlainKeeper want = new PlainKeeper(HORIZON + 7000);
    private final int[] weights;
    private final StringBuilder told = new StringBuilder();

    private RandomRunsTest(long seed) {
        random = new Random(seed);
        // Some runs send many letters, some change the calendar a lot, some do little but wake and flow.
        int[] flavour = {random.nextInt(4) * 2, random.nextInt(3) * 4, random.nextInt(3) * 2};
        weights = new int[] {
            flavour[0], flavour[0], flavour[0], 1, 1, 1, 1, flavour[0], flavour[0], flavour[0], flavour[0], 1 + flavour[0],
            flavour[0], 2, 2, 2, 4, 12, 10 + flavour[1], 10 + flavour[2], 30, flavour[2], 2 + flavour[2], 2, 1, 2, 1,
            2, 1, 1, 1, 1, 1};
    }

    private int pick(int from, int to) {
        return random.nextInt(40) == 0 ? ODD[random.nextInt(ODD.length)] : from + random.nextInt(to - from + 1);
    }

    private int someJob() {
        return pick(0, Math.max(0, want.jobs.size() - 1));
    }

    private int someZone() {
        return pick(0, Math.max(0, want.zones.size() - 1));
    }

    private int someMinute() {
        switch (random.nextInt(4)) {
            case 0: return pick(0, HORIZON);
            case 1: return pick(Math.max(0, want.now - 3000), want.now + 3000);
            case 2: return want.now;
            default:
                int job = someJob();
                int due = want.due(job, Math.min(want.now + random.nextInt(2000), PlainKeeper.LAST));
                return due < 0 ? want.now : due;
        }
    }

    /** Often one that decides something: most letters that wait are ASKs. */
    private int someLetter() {
        if (random.nextBoolean()) {
            int kind = 1 + random.nextInt(5);
            for (int i = 0; i < want.letters.size(); i++) if (want.letters.get(i).kind() == kind) return i;
        }
        return pick(0, Math.max(1, want.letters.size()));
    }

    private long someBits(int field) {
        long bits = random.nextLong();
        if (field >= 2 && random.nextInt(3) > 0) return -1L;
        if (random.nextInt(3) == 0) return bits;
        if (field == 0 && random.nextBoolean()) return 1L << random.nextInt(64);
        return bits & random.nextLong();
    }

    private void same(String call, int answer, int due) {
        told.append(call).append(" = ").append(due).append('\n');
        boolean fine = due == PlainKeeper.BEYOND ? answer == TickKeeper.NONE || answer > want.horizon : answer == due;
        if (!fine && wrong++ < 5) {
            System.out.println(told);
            System.out.println(call + " answered " + answer + ", due is " + due);
        }
    }

    private String call(String name, Object... arguments) {
        return name + Arrays.toString(arguments);
    }

    private void setUp() {
        for (int z = 1 + random.nextInt(3); z > 0; z--) same("zone", got.zone(), want.zone());
        for (int j = 1 + random.nextInt(random.nextInt(3) > 0 ? 3 : 12); j > 0; j--) {
            int zone = someZone();
            same(call("job", zone), got.job(zone), want.job(zone));
        }
        for (int j = 0; j < want.jobs.size(); j++) {
            for (int field = 0; field < 5; field++) {
                long bits = field == 1 ? someBits(1) | 1 << random.nextInt(24) : someBits(field);
                same(call("mask", j, field, bits), got.mask(j, field, bits), want.mask(j, field, bits));
            }
            int mode = random.nextInt(3);
            int late = random.nextInt(3) == 0 ? 1440 : random.nextInt(1441);
            same(call("catchUp", j, mode, late), got.catchUp(j, mode, late), want.catchUp(j, mode, late));
            int other = random.nextInt(want.jobs.size());
            if (random.nextBoolean()) same(call("after", j, other), got.after(j, other), want.after(j, other));
        }
    }

    private int kindOfCall() {
        int sum = Arrays.stream(weights).sum();
        int at = random.nextInt(sum);
        for (int kind = 0; kind < weights.length; kind++) {
            at -= weights[kind];
            if (at < 0) return kind;
        }
        return 0;
    }

    private void calendarCall(int kind) {
        int zone = someZone();
        int minute = someMinute();
        int day = pick(0, 30);
        int job = someJob();
        switch (kind) {
            case 0: {
                int offset = random.nextInt(8) == 0 ? pick(-841, 841) : pick(-840, 840);
                same(call("shift", zone, minute, offset), got.shift(zone, minute, offset), want.shift(zone, minute, offset));
                break;
            }
            case 1: same(call("holiday", zone, day), got.holiday(zone, day), want.holiday(zone, day)); break;
            case 2: same(call("job", zone), got.job(zone), want.job(zone)); break;
            case 3: same(call("local", zone, minute), got.local(zone, minute), want.local(zone, minute)); break;
            case 4: {
                int local = minute + random.nextInt(3000) - 1500;
                same(call("moment", zone, local), got.moment(zone, local), want.moment(zone, local));
                break;
            }
            case 5: {
                int what = pick(0, 5);
                int told = random.nextBoolean() ? day : pick(-1001, 20001);
                same(call("day", zone, told, what), got.day(zone, told, what), want.day(zone, told, what));
                break;
            }
            case 6: same("zone", got.zone(), want.zone()); break;
            case 7: {
                int field = pick(0, 4);
                long bits = someBits(field);
                same(call("mask", job, field, bits), got.mask(job, field, bits), want.mask(job, field, bits));
                break;
            }
            case 8: {
                int weekday = pick(0, 6);
                int n = pick(1, 6);
                same(call("nth", job, weekday, n), got.nth(job, weekday, n), want.nth(job, weekday, n));
                break;
            }
            case 9: same(call("except", job, minute), got.except(job, minute), want.except(job, minute)); break;
            default: {
                int way = pick(0, 2);
                same(call("onHoliday", job, way), got.onHoliday(job, way), want.onHoliday(job, way));
                break;
            }
        }
    }

    private void jobCall(int kind) {
        int job = someJob();
        int minute = someMinute();
        switch (kind) {
            case 11: {
                int mode = pick(0, 2);
                int late = pick(0, 1440);
                same(call("catchUp", job, mode, late), got.catchUp(job, mode, late), want.catchUp(job, mode, late));
                break;
            }
            case 12: {
                int other = someJob();
                same(call("after", job, other), got.after(job, other), want.after(job, other));
                break;
            }
            case 13: {
                boolean on = random.nextInt(3) == 0;
                same(call("pause", job, on), got.pause(job, on), want.pause(job, on));
                break;
            }
            case 14: same(call("due", job, minute), got.due(job, minute), want.due(job, minute)); break;
            case 15: {
                int b = minute + random.nextInt(3000) - 100;
                int i = pick(0, random.nextBoolean() ? 50 : 3);
                same(call("between", job, minute, b, i), got.between(job, minute, b, i), want.between(job, minute, b, i));
                break;
            }
            default: same(call("runNow", job), got.runNow(job), want.runNow(job)); break;
        }
    }

    private void letterCall(int kind) {
        int i = someLetter();
        int scheduler = pick(0, 2);
        switch (kind) {
            case 17: {
                int minute = random.nextInt(3) > 0 ? someMinute() : want.now + random.nextInt(100);
                if (minute > want.now + 1500 && minute <= PlainKeeper.LAST || minute > HORIZON && minute <= PlainKeeper.LAST) {
                    minute = want.now;
                }
                same(call("now", minute), got.now(minute), want.now(minute));
                break;
            }
            case 18: same(call("wake", scheduler), got.wake(scheduler), want.wake(scheduler)); break;
            case 19: same(call("deliver", i), got.deliver(i), want.deliver(i)); break;
            case 20: {
                int n = random.nextBoolean() ? pick(1, 50) : pick(1, 6);
                same(call("flow", n), got.flow(n), want.flow(n));
                break;
            }
            case 21: same(call("lose", i), got.lose(i), want.lose(i)); break;
            case 22: same(call("twin", i), got.twin(i), want.twin(i)); break;
            case 23: {
                int what = pick(0, 7);
                same(call("letter", i, what), got.letter(i, what), want.letter(i, what));
                break;
            }
            case 24: same(call("crash", scheduler), got.crash(scheduler), want.crash(scheduler)); break;
            case 25: same(call("restart", scheduler), got.restart(scheduler), want.restart(scheduler)); break;
            default: {
                int desk = pick(0, 1);
                boolean down = random.nextInt(4) == 0;
                same(call("desk", desk, down), got.desk(desk, down), want.desk(desk, down));
                break;
            }
        }
    }

    private void seenCall(int kind) {
        int job = someJob();
        int what = pick(0, 6);
        int scheduler = pick(0, 2);
        int i = pick(0, Math.max(1, want.effects(Math.max(0, Math.min(job, 11)))));
        switch (kind) {
            case 27: same(call("register", scheduler, job, what), got.register(scheduler, job, what), want.register(scheduler, job, what)); break;
            case 28: same(call("effects", job), got.effects(job), want.effects(job)); break;
            case 29: same(call("effect", job, i, what % 2), got.effect(job, i, what % 2), want.effect(job, i, what % 2)); break;
            case 30: same(call("waiting", job), got.waiting(job), want.waiting(job)); break;
            case 31: same(call("passed", job), got.passed(job), want.passed(job)); break;
            default: same(call("count", what), got.count(what), want.count(what)); break;
        }
    }

    /** All that can be seen. These are not told among the calls, as they change nothing. */
    private void compareAll() {
        int length = told.length();
        for (int what = 0; what < 7; what++) same(call("count", what), got.count(what), want.count(what));
        for (int i = 0; i < want.letters.size(); i++) {
            for (int what = 0; what < 8; what++) same(call("letter", i, what), got.letter(i, what), want.letter(i, what));
        }
        for (int j = 0; j < want.jobs.size(); j++) {
            for (int s = 0; s < 3; s++) {
                for (int what = 0; what < 7; what++) same(call("register", s, j, what), got.register(s, j, what), want.register(s, j, what));
            }
            same(call("waiting", j), got.waiting(j), want.waiting(j));
            same(call("passed", j), got.passed(j), want.passed(j));
            for (int i = 0; i <= want.effects(j); i++) {
                for (int what = 0; what < 2; what++) same(call("effect", j, i, what), got.effect(j, i, what), want.effect(j, i, what));
            }
        }
        told.setLength(length);
    }

    private void run() {
        setUp();
        for (int n = 0; n < CALLS && wrong == 0; n++) {
            int kind = kindOfCall();
            if (kind <= 10) calendarCall(kind);
            else if (kind <= 16) jobCall(kind);
            else if (kind <= 26) letterCall(kind);
            else seenCall(kind);
            if (n % 8 == 7) compareAll();
        }
        for (PlainKeeper.Job job : want.jobs) {
            effectsByMode[job.mode] += job.effects.size();
            waits += job.waiting == 0 ? 0 : 1;
            passes += job.passed;
        }
        refusals += want.refused;
        lost += want.lost;
    }

    public static void main(String[] args) {
        int runs = args.length > 0 ? Integer.parseInt(args[0]) : RUNS;
        int first = args.length > 1 ? Integer.parseInt(args[1]) : 1;
        for (int seed = first; seed < first + runs && wrong == 0; seed++) new RandomRunsTest(seed).run();
        System.out.println("effects by mode " + Arrays.toString(effectsByMode) + ", waits at the end " + waits
                + ", passed over " + passes + ", effects refused " + refusals + ", lost for room " + lost);
        // A test that met none of these would prove nothing of them.
        boolean idle = effectsByMode[0] == 0 || effectsByMode[1] == 0 || effectsByMode[2] == 0
                || waits == 0 || passes == 0 || refusals == 0 || lost == 0;
        if (idle) System.out.println("the runs were too idle");
        System.out.println(wrong == 0 ? "all answers are as due" : wrong + " answers are not as due");
        if (wrong != 0 || idle) System.exit(1);
    }
}
