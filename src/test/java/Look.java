import java.util.ArrayList;
import java.util.List;

/** A call by which something of an object is seen, with its name. */
record Look(String name, Bounds.Call call) {
    private static final int LAST = 21038399, JOBS = 12, SCHEDULERS = 3, ZONES = 3, LETTERS = 60;
    private static final int[] MINUTES = {0, 1, 59, 600, 1000, 1439, 1440, LAST - 1, LAST};
    private static final int[] DAYS = {-1, 0, 1, 2, 3, 5, 6, 30, 14608, 14609, 14610};

    /**
     * All that can be seen, in rows for an object each, so that a story, a call and a row stay below 512 calls.
     * The last rows go on with the object, as what it holds inside is seen by what it does later.
     */
    static final List<List<Look>> ROWS = List.of(
            zones(), jobs(), registers(), letters(0, 30), letters(30, LETTERS + 1), changes(), waits(), ballots(), goingOn());

    private static void add(List<Look> row, String name, Bounds.Call call) {
        row.add(new Look(name, call));
    }

    private static void addCounts(List<Look> row) {
        for (int what = 0; what < 7; what++) {
            int w = what;
            add(row, "count(" + w + ")", x -> x.count(w));
        }
    }

    private static List<Look> zones() {
        List<Look> row = new ArrayList<>();
        addCounts(row);
        for (int zone = 0; zone < ZONES; zone++) {
            int z = zone;
            for (int m : MINUTES) {
                add(row, "local(" + z + ", " + m + ")", x -> x.local(z, m));
                add(row, "moment(" + z + ", " + m + ")", x -> x.moment(z, m));
            }
            for (int d : DAYS) {
                add(row, "day(" + z + ", " + d + ", 4)", x -> x.day(z, d, 4));
                add(row, "day(" + z + ", " + d + ", 5)", x -> x.day(z, d, 5));
            }
        }
        return row;
    }

    private static List<Look> jobs() {
        List<Look> row = new ArrayList<>();
        for (int job = 0; job < JOBS; job++) {
            int j = job;
            for (int from : new int[] {0, 1, 1000, 1000000}) add(row, "due(" + j + ", " + from + ")", x -> x.due(j, from));
            for (int i : new int[] {5, 50}) add(row, "between(" + j + ", 0, LAST, " + i + ")", x -> x.between(j, 0, LAST, i));
            addEffects(row, j);
        }
        return row;
    }

    private static void addEffects(List<Look> row, int j) {
        add(row, "effects(" + j + ")", x -> x.effects(j));
        add(row, "waiting(" + j + ")", x -> x.waiting(j));
        add(row, "passed(" + j + ")", x -> x.passed(j));
        for (int effect = 0; effect < 3; effect++) {
            int i = effect;
            add(row, "effect(" + j + ", " + i + ", 0)", x -> x.effect(j, i, 0));
            add(row, "effect(" + j + ", " + i + ", 1)", x -> x.effect(j, i, 1));
        }
    }

    private static List<Look> registers() {
        List<Look> row = new ArrayList<>();
        for (int scheduler = 0; scheduler < SCHEDULERS; scheduler++) {
            for (int job = 0; job < JOBS; job++) addRegister(row, scheduler, job, 7);
        }
        return row;
    }

    private static void addRegister(List<Look> row, int s, int j, int numbers) {
        for (int what = 0; what < numbers; what++) {
            int w = what;
            add(row, "register(" + s + ", " + j + ", " + w + ")", x -> x.register(s, j, w));
        }
    }

    private static List<Look> letters(int from, int to) {
        List<Look> row = new ArrayList<>();
        for (int letter = from; letter < to; letter++) {
            int i = letter;
            for (int what = 0; what < 8; what++) {
                int w = what;
                add(row, "letter(" + i + ", " + w + ")", x -> x.letter(i, w));
            }
        }
        return row;
    }

    /** Calls that tell how many there are of something, or what it was. */
    private static List<Look> changes() {
        List<Look> row = new ArrayList<>();
        for (int scheduler = 0; scheduler < SCHEDULERS; scheduler++) {
            int s = scheduler;
            add(row, "crash(" + s + ")", x -> x.crash(s));
        }
        for (int desk = 0; desk < 2; desk++) {
            int d = desk;
            add(row, "desk(" + d + ", true)", x -> x.desk(d, true));
        }
        for (int job = 0; job < JOBS; job++) {
            int j = job;
            add(row, "pause(" + j + ", true)", x -> x.pause(j, true));
            add(row, "onHoliday(" + j + ", 1)", x -> x.onHoliday(j, 1));
            add(row, "nth(" + j + ", 6, 6)", x -> x.nth(j, 6, 6));
            add(row, "except(" + j + ", LAST)", x -> x.except(j, LAST));
            add(row, "runNow(" + j + ")", x -> x.runNow(j));
        }
        for (int zone = 0; zone < ZONES; zone++) {
            int z = zone;
            add(row, "holiday(" + z + ", 14000)", x -> x.holiday(z, 14000));
            add(row, "shift(" + z + ", LAST, 1)", x -> x.shift(z, LAST, 1));
        }
        add(row, "twin(0)", x -> x.twin(0));
        add(row, "job(0)", x -> x.job(0));
        add(row, "zone()", x -> x.zone());
        return row;
    }

    /** JOBS that 0 waits for by some steps may not wait for it; then for how many each one waits. */
    private static List<Look> waits() {
        List<Look> row = new ArrayList<>();
        for (int job = 1; job < JOBS; job++) {
            int j = job;
            add(row, "after(" + j + ", 0)", x -> x.after(j, 0));
        }
        for (int job = 0; job < JOBS; job++) {
            int j = job;
            add(row, "after(" + j + ", " + (j + 1) % JOBS + ")", x -> x.after(j, (j + 1) % JOBS));
        }
        return row;
    }

    /** The ballots tell what each SCHEDULER has SEEN, as long as no LETTER goes. */
    private static List<Look> ballots() {
        List<Look> row = new ArrayList<>();
        for (int job = 0; job < JOBS; job++) {
            int j = job;
            add(row, "pause(" + j + ", false)", x -> x.pause(j, false));
        }
        add(row, "now, 61 later", x -> x.now(Math.min(LAST, x.count(0) + 61)));
        for (int scheduler = 0; scheduler < SCHEDULERS; scheduler++) {
            int s = scheduler;
            add(row, "wake(" + s + ")", x -> x.wake(s));
            for (int job = 0; job < JOBS; job++) addRegister(row, s, job, 7);
        }
        return row;
    }

    /** What has waited goes its way, then each SCHEDULER is woken an hour later. */
    private static List<Look> goingOn() {
        List<Look> row = new ArrayList<>();
        for (int k = 0; k < 3; k++) add(row, "flow(50)", x -> x.flow(50));
        for (int scheduler = 0; scheduler < SCHEDULERS; scheduler++) {
            int s = scheduler;
            add(row, "restart(" + s + ")", x -> x.restart(s));
            add(row, "wake(" + s + ")", x -> x.wake(s));
            for (int k = 0; k < 3; k++) add(row, "flow(50)", x -> x.flow(50));
            add(row, "now, 61 later", x -> x.now(Math.min(LAST, x.count(0) + 61)));
        }
        for (int job = 0; job < JOBS; job++) {
            addEffects(row, job);
            addRegister(row, job % SCHEDULERS, job, 4);
        }
        addCounts(row);
        return row;
    }
}
