import java.util.ArrayList;
import java.util.List;
import java.util.function.IntFunction;
import java.util.function.Supplier;

/** A part of the tests by sentences: each test quotes the words of the document that it holds the class to. */
abstract class Bounds {
    static final int BAD = -1, STATE = -2, FULL = -3, NONE = -9;
    static final int LAST = 21038399, MAX = Integer.MAX_VALUE, MIN = Integer.MIN_VALUE;
    static final int ASK = 0, PROMISE = 1, WRITE = 2, WRITTEN = 3, REFUSE = 4, EFFECT = 5;
    static final int ALL = 0, NEWEST = 1, ONLY_NOW = 2;
    static final int DAY = 1440;
    /** Where words stand that are no promise's: "What it is" and "Terms". */
    static final int TERMS = 0;

    /** A call, or a few, made of an object. */
    interface Call {
        int on(TickKeeper x);
    }

    /** Words of the document, and the promise in which they stand. */
    record Quote(int promise, String words) { }

    final List<Quote> quotes = new ArrayList<>();
    int wrong;
    private int checks;

    abstract void all();

    /** What is checked from here on belongs to these words. */
    void sentence(int promise, String words) {
        endSentence();
        quotes.add(new Quote(promise, words));
        checks = 0;
    }

    void endSentence() {
        if (!quotes.isEmpty() && checks == 0) tell("nothing is checked");
    }

    private void tell(String fault) {
        wrong++;
        if (wrong <= 40) System.out.println(quotes.get(quotes.size() - 1) + ": " + fault);
    }

    void due(String call, int got, int want) {
        checks++;
        if (got != want) tell(call + " answered " + got + ", due is " + want);
    }

    /** The answer, and that all is as if the call had not been made. The story is told anew for each row of looks. */
    void refused(String name, Supplier<TickKeeper> story, int answer, Call call) {
        for (List<Look> row : Look.ROWS) {
            TickKeeper with = story.get();
            TickKeeper without = story.get();
            due(name, call.on(with), answer);
            for (Look look : row) {
                due(name + ", then " + look.name(), look.call().on(with), look.call().on(without));
            }
        }
    }

    /** The first numbers below and above those that are allowed, and the farthest ones, are BAD. */
    void badBeside(String name, Supplier<TickKeeper> story, int low, int high, IntFunction<Call> call) {
        for (int number : new int[] {low - 1, high + 1, MIN, MAX}) {
            refused(name + " " + number, story, BAD, call.apply(number));
        }
    }

    // ---- stories

    static TickKeeper zones(int zones) {
        TickKeeper x = new TickKeeper();
        for (int z = 0; z < zones; z++) x.zone();
        return x;
    }

    /** One ZONE, and JOBS that are never DUE. */
    static TickKeeper jobs(int jobs) {
        TickKeeper x = zones(1);
        for (int j = 0; j < jobs; j++) x.job(0);
        return x;
    }

    /** DUE on each day. */
    static void daily(TickKeeper x, int job, long minutes, long hours) {
        x.mask(job, 0, minutes);
        x.mask(job, 1, hours);
        for (int field = 2; field < 5; field++) x.mask(job, field, -1L);
    }

    /** DUE at one LOCAL minute of each day. */
    static void dailyAt(TickKeeper x, int job, int minute) {
        daily(x, job, 1L << minute % 60, 1L << minute / 60);
    }

    /** JOBS that are DUE at each full hour and may be a day late. */
    static TickKeeper hourly(int jobs) {
        TickKeeper x = jobs(jobs);
        for (int j = 0; j < jobs; j++) {
            daily(x, j, 1L, -1L);
            x.catchUp(j, ALL, DAY);
        }
        return x;
    }

    static TickKeeper hourlyAt(int jobs, int now) {
        TickKeeper x = hourly(jobs);
        x.now(now);
        return x;
    }

    /** All hourly JOBS' RUNS of a SCHEDULER ask. */
    static TickKeeper woken(int jobs, int scheduler) {
        TickKeeper x = hourly(jobs);
        x.wake(scheduler);
        return x;
    }

    /** SCHEDULER 0's RUN of one hourly JOB writes; its ASK to 2 and two WRITES wait. */
    static TickKeeper writing(int now) {
        TickKeeper x = hourlyAt(1, now);
        x.wake(0);
        x.deliver(0);
        x.deliver(1);
        return x;
    }

    static void fill(TickKeeper x, int letters) {
        int there = x.count(3);
        for (int n = there; n < letters; n++) x.twin(0);
    }

    static void loseAll(TickKeeper x) {
        for (int n = x.count(3); n > 0; n--) x.lose(0);
    }

    /** Delivers the first LETTER of a kind from one to another; its kind, or NONE. */
    static int deliver(TickKeeper x, int kind, int from, int to) {
        int letters = x.count(3);
        for (int i = 0; i < letters; i++) {
            if (x.letter(i, 0) == kind && x.letter(i, 1) == from && x.letter(i, 2) == to) return x.deliver(i);
        }
        return NONE;
    }

    static int wakeAndFlow(TickKeeper x, int scheduler) {
        x.wake(scheduler);
        return x.flow(50);
    }

    // ---- ballots

    static int leastAbove(int seen, int scheduler) {
        int ballot = 3 + scheduler;
        while (ballot <= seen) ballot += 3;
        return ballot;
    }

    static int deliverAsk(TickKeeper x, int ballot, int to) {
        int letters = x.count(3);
        for (int i = 0; i < letters; i++) {
            if (x.letter(i, 0) == ASK && x.letter(i, 4) == ballot && x.letter(i, 2) == to) return x.deliver(i);
        }
        return NONE;
    }

    /** One hourly JOB, of which a SCHEDULER has PROMISED that ballot; no LETTER waits. */
    static TickKeeper promised(int scheduler, int ballot) {
        TickKeeper x = hourly(1);
        makePromise(x, scheduler, ballot);
        return x;
    }

    static void makePromise(TickKeeper x, int scheduler, int ballot) {
        for (int n = 1; n <= ballot / 3; n++) x.wake(ballot % 3);
        if (ballot % 3 != scheduler) deliverAsk(x, ballot, scheduler);
        loseAll(x);
    }

    /** SCHEDULER 1 asked by ballot 4, and 0, which PROMISED that one, has refused it. */
    static TickKeeper refusedBy(int ballot) {
        TickKeeper x = promised(0, ballot);
        x.wake(1);
        x.deliver(0);
        x.deliver(1);
        loseAll(x);
        return x;
    }

    // ---- rows of answers

    void letterIs(TickKeeper x, int i, int... numbers) {
        for (int what = 0; what < 8; what++) due("letter(" + i + ", " + what + ")", x.letter(i, what), numbers[what]);
    }

    void registerIs(TickKeeper x, int s, int job, int... numbers) {
        for (int what = 0; what < numbers.length; what++) {
            due("register(" + s + ", " + job + ", " + what + ")", x.register(s, job, what), numbers[what]);
        }
    }
}
