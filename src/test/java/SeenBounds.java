import java.util.Random;

/** Promises 29 to 34, and what the document says of an object as a whole. */
final class SeenBounds extends Bounds {
    @Override
    void all() {
        onceAtMost();
        calls();
        register();
        effects();
        effect();
        waiting();
        passed();
        count();
        lostForRoom();
        refusedEffects();
    }

    // ---- an object as a whole

    /** LETTERS lost, doubled and late, SCHEDULERS and DESKS that go down; fewer than 400 calls. */
    private static TickKeeper storm(int seed) {
        Random random = new Random(seed);
        TickKeeper x = hourly(3);
        x.catchUp(1, NEWEST, DAY);
        x.catchUp(2, ONLY_NOW, 0);
        int now = 0;
        for (int n = 0; n < 150; n++) {
            int letters = x.count(3);
            int i = letters == 0 ? 0 : random.nextInt(letters);
            switch (random.nextInt(12)) {
                case 0: x.now(now += random.nextInt(3) * 30); break;
                case 1: case 2: x.wake(random.nextInt(3)); break;
                case 3: x.twin(i); break;
                case 4: x.lose(i); break;
                case 5: x.crash(random.nextInt(3)); break;
                case 6: x.restart(random.nextInt(3)); break;
                case 7: x.desk(random.nextInt(2), random.nextBoolean()); break;
                case 8: case 9: x.flow(1 + random.nextInt(20)); break;
                default: x.deliver(i); break;
            }
        }
        return x;
    }

    private void onceAtMost() {
        sentence(TERMS, "Jobs by calendar rules, which three schedulers claim by ballots and letters, and desks do: each due minute once at most, in order, whatever letters are lost, doubled or late, and whichever scheduler goes down.");
        int done = 0;
        for (int seed = 0; seed < 300; seed++) {
            for (int job = 0; job < 3; job++) {
                TickKeeper x = storm(seed);
                int minute = -1;
                int guard = 0;
                int effects = Math.min(30, x.effects(job));
                for (int i = 0; i < effects; i++) {
                    done++;
                    int next = x.effect(job, i, 0);
                    due("it is due", x.due(job, next), next);
                    due("in order", next > minute ? 1 : 0, 1);
                    int nextGuard = x.effect(job, i, 1);
                    due("guards in order", nextGuard > guard ? 1 : 0, 1);
                    minute = next;
                    guard = nextGuard;
                }
            }
        }
        due("much was done", done > 500 ? 1 : 0, 1);
    }

    private void calls() {
        sentence(TERMS, "An object is used for at most 512 calls after it has been made; what later calls answer is free.");
        // 9 calls, then 250 times 2.
        TickKeeper x = zones(1);
        x.job(0);
        daily(x, 0, -1L, -1L);
        x.catchUp(0, ALL, DAY);
        x.now(DAY);
        for (int n = 0; n < 250; n++) wakeAndFlow(x, n % 3);
        due("call 510: most effects", x.effects(0), 250);
        due("call 511: the last one's minute", x.effect(0, 249, 0), 249);
        due("call 512: the last one's guard", x.effect(0, 249, 1), 250);
        // 8 calls, then 502 of one SCHEDULER.
        TickKeeper y = zones(1);
        y.job(0);
        daily(y, 0, -1L, -1L);
        y.catchUp(0, ALL, DAY);
        for (int n = 0; n < 502; n++) y.wake(2);
        due("call 511: the highest ballot", y.register(2, 0, 0), 3 * 502 + 2);
        due("call 512: letters without room", y.count(5), 2 * 502 - 60);
    }

    // ---- promises

    private void register() {
        sentence(29, "Of a SCHEDULER's REGISTER of a JOB: 0 PROMISED, 1 ACCEPTED, 2 UP TO, 3 GUARD; 4 its RUN's ballot (0: none), 5 whether that asks (1) or writes (2; 0: none), 6 the MINUTE that it claims (NONE).");
        for (int s = 0; s < 3; s++) {
            TickKeeper x = hourlyAt(1, 60);
            registerIs(x, s, 0, 0, 0, -1, 0, 0, 0, NONE);
            x.wake(s);
            registerIs(x, s, 0, 3 + s, 0, -1, 0, 3 + s, 1, NONE);
            x.flow(4);
            registerIs(x, s, 0, 3 + s, 3 + s, 0, 1, 3 + s, 2, 0);
            x.flow(4);
            registerIs(x, s, 0, 3 + s, 3 + s, 0, 1, 0, 0, NONE);
            registerIs(x, (s + 1) % 3, 0, 3 + s, 3 + s, 0, 1, 0, 0, NONE);
            x.flow(50);
            x.wake(s);
            registerIs(x, s, 0, 6 + s, 3 + s, 0, 1, 6 + s, 1, NONE);
            x.flow(4);
            registerIs(x, s, 0, 6 + s, 6 + s, 60, 2, 6 + s, 2, 60);
        }
        TickKeeper none = hourlyAt(1, 61);
        none.catchUp(0, ALL, 0);
        none.wake(0);
        none.flow(4);
        registerIs(none, 0, 0, 3, 3, 61, 0, 3, 2, NONE);
        sentence(29, "BAD.");
        badBeside("scheduler", () -> woken(2, 0), 0, 2, s -> k -> k.register(s, 0, 0));
        badBeside("job", () -> woken(2, 0), 0, 1, j -> k -> k.register(0, j, 0));
        badBeside("what", () -> woken(2, 0), 0, 6, w -> k -> k.register(0, 0, w));
        refused("no job", () -> zones(1), BAD, k -> k.register(0, 0, 0));
    }

    /** One JOB of which MINUTES 0, 60 .. were EFFECTED. */
    private static TickKeeper effected(int minutes) {
        TickKeeper x = hourlyAt(1, 60 * minutes);
        for (int n = 0; n < minutes; n++) wakeAndFlow(x, n % 3);
        return x;
    }

    private void effects() {
        sentence(30, "How many MINUTES of a JOB were EFFECTED.");
        due("none", hourly(1).effects(0), 0);
        // Around where a row of 8, 16, 32 .. would be full.
        for (int n : new int[] {1, 2, 7, 8, 9, 15, 16, 17, 24}) due(n + " minutes", effected(n).effects(0), n);
        TickKeeper x = woken(1, 0);
        x.flow(8);
        due("the effect waits", x.effects(0), 0);
        x.flow(1);
        due("it is taken", x.effects(0), 1);
        TickKeeper y = hourly(2);
        y.pause(0, true);
        wakeAndFlow(y, 0);
        due("of the other one", y.effects(0), 0);
        due("of this one", y.effects(1), 1);
        sentence(30, "BAD.");
        badBeside("job", () -> hourly(2), 0, 1, j -> k -> k.effects(j));
        refused("no job", () -> zones(1), BAD, k -> k.effects(0));
    }

    private void effect() {
        sentence(31, "Of effect i of a JOB: 0 the MINUTE, 1 the GUARD.");
        for (int n : new int[] {1, 8, 9, 17}) {
            TickKeeper x = effected(n);
            for (int i = 0; i < n; i++) {
                due("minute " + i + " of " + n, x.effect(0, i, 0), 60 * i);
                due("guard " + i + " of " + n, x.effect(0, i, 1), i + 1);
            }
        }
        sentence(31, "NONE: none such.");
        for (int what = 0; what < 2; what++) {
            due("none yet", hourly(1).effect(0, 0, what), NONE);
            for (int i : new int[] {-1, 2, MIN, MAX}) due("effect " + i + " of 2", effected(2).effect(0, i, what), NONE);
            due("effect 1 of 2", effected(2).effect(0, 1, what), what == 0 ? 60 : 2);
        }
        sentence(31, "BAD.");
        badBeside("what", () -> effected(2), 0, 1, w -> k -> k.effect(0, 0, w));
        badBeside("job", () -> effected(2), 0, 0, j -> k -> k.effect(j, 0, 0));
        badBeside("BAD ahead of NONE", () -> effected(2), 0, 1, w -> k -> k.effect(0, 2, w));
        refused("no job", () -> zones(1), BAD, k -> k.effect(0, 0, 0));
    }

    /** JOB 1 waits for JOB 0, which is PAUSED. */
    private static TickKeeper waiter() {
        TickKeeper x = hourly(2);
        x.after(1, 0);
        x.pause(0, true);
        return x;
    }

    private void waiting() {
        sentence(32, "JOBS for which it WAITS, as the latest RUN of it that DECIDED found it (bits).");
        due("none decided yet", waiter().waiting(1), 0);
        TickKeeper x = waiter();
        x.wake(0);
        due("it asks", x.waiting(1), 0);
        x.flow(2);
        due("it asks still", x.waiting(1), 0);
        x.flow(1);
        due("it decided", x.waiting(1), 1);
        x.pause(0, false);
        due("what changes is not seen", x.waiting(1), 1);
        x.pause(1, true);
        wakeAndFlow(x, 0);
        due("it was done, but none decided anew", x.waiting(1), 1);
        due("it was done", x.effects(0), 1);
        x.pause(1, false);
        wakeAndFlow(x, 1);
        due("one of another scheduler decided", x.waiting(1), 0);
        due("done", x.effects(1), 1);
        TickKeeper highest = hourly(12);
        highest.after(0, 11);
        highest.pause(11, true);
        highest.wake(0);
        highest.flow(50);
        due("the highest bit", highest.waiting(0), 1 << 11);
        TickKeeper paused = waiter();
        paused.wake(0);
        paused.pause(1, true);
        paused.flow(50);
        due("one that ended for a pause decided, too", paused.waiting(1), 1);
        TickKeeper nothing = waiter();
        wakeAndFlow(nothing, 0);
        due("it waits", nothing.waiting(1), 1);
        nothing.except(1, 0);
        nothing.now(30);
        due("nothing is due", nothing.wake(0), 0);
        due("so none decided", nothing.waiting(1), 1);
        nothing.now(121);
        nothing.catchUp(1, ALL, 0);
        wakeAndFlow(nothing, 0);
        due("one decided, and claimed nothing", nothing.waiting(1), 0);
        sentence(32, "BAD.");
        badBeside("job", SeenBounds::waiter, 0, 1, j -> k -> k.waiting(j));
        refused("no job", () -> zones(1), BAD, k -> k.waiting(0));
    }

    private void passed() {
        sentence(33, "How often DUE MINUTES of a JOB were PASSED over.");
        due("never", hourly(1).passed(0), 0);
        due("none of nine", effected(9).passed(0), 0);
        TickKeeper x = hourly(2);
        for (int n = 1; n <= 9; n++) {
            x.catchUp(0, ALL, 0);
            x.now(60 * n * n + 1);
            wakeAndFlow(x, n % 3);
            due("time " + n, x.passed(0), n);
        }
        due("the other has caught up", x.passed(1) < 9 ? 1 : 0, 1);
        sentence(33, "BAD.");
        badBeside("job", () -> hourly(2), 0, 1, j -> k -> k.passed(j));
        refused("no job", () -> zones(1), BAD, k -> k.passed(0));
    }

    private void count() {
        sentence(34, "0 NOW, 1 ZONES, 2 JOBS, 3 LETTERS, 4 RUNS,");
        for (int what = 0; what < 7; what++) due("at first " + what, new TickKeeper().count(what), 0);
        TickKeeper x = zones(3);
        x.now(LAST);
        for (int j = 0; j < 12; j++) x.job(0);
        due("the last NOW", x.count(0), LAST);
        due("all zones", x.count(1), 3);
        due("all jobs", x.count(2), 12);
        TickKeeper y = hourly(12);
        for (int s = 0; s < 3; s++) {
            y.wake(s);
            due("letters", y.count(3), Math.min(60, 24 * (s + 1)));
            due("runs", y.count(4), 12 * (s + 1));
        }
        y.wake(0);
        due("no more runs than 36", y.count(4), 36);
        y.crash(1);
        due("24 runs", y.count(4), 24);
        loseAll(y);
        due("no letters", y.count(3), 0);
        due("the runs stay", y.count(4), 24);
        due("one that writes", writing(60).count(4), 1);
        sentence(34, "BAD.");
        badBeside("what", () -> woken(2, 0), 0, 6, w -> k -> k.count(w));
    }

    private void lostForRoom() {
        sentence(34, "5 LETTERS that were lost for want of room,");
        TickKeeper x = woken(12, 0);
        fill(x, 59);
        x.pause(0, true);
        for (int j = 2; j < 12; j++) x.pause(j, true);
        due("one run", x.wake(1), 1);
        due("one letter has room, one has not", x.count(5), 1);
        due("twin", x.twin(0), FULL);
        due("a twin that is refused is none", x.count(5), 1);
        x.lose(0);
        due("one that is lost by a call is none", x.count(5), 1);
        x.crash(2);
        deliver(x, ASK, 0, 2);
        due("one to a scheduler that is down is none", x.count(5), 1);
        x.wake(1);
        due("there was room for two", x.count(5), 1);
        x.wake(1);
        due("there was none for two", x.count(5), 3);
    }

    private void refusedEffects() {
        sentence(34, "6 effects that were refused by DESKS that are up.");
        for (int desk = 0; desk < 2; desk++) {
            TickKeeper x = hourly(2);
            x.pause(1 - desk, true);
            x.wake(0);
            x.flow(8);
            for (int n = 2; n <= 5; n++) due("twins", x.twin(0), n);
            x.deliver(0);
            due("taken", x.count(6), 0);
            x.deliver(0);
            due("refused", x.count(6), 1);
            x.desk(desk, true);
            x.deliver(0);
            due("it is down", x.count(6), 1);
            x.desk(desk, false);
            x.desk(1 - desk, true);
            x.deliver(0);
            due("it is up again, the other is down", x.count(6), 2);
            x.lose(0);
            due("lost", x.count(6), 2);
        }
    }
}
