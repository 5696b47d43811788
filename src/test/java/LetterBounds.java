/** Promises 19 to 28. */
final class LetterBounds extends Bounds {
    @Override
    void all() {
        now();
        wake();
        wakeByMinutes();
        wakeRefusals();
        deliver();
        flow();
        lose();
        twin();
        letter();
        crash();
        restart();
        desk();
    }

    private static TickKeeper empty() {
        return hourly(1);
    }

    /** 60 LETTERS, of 12 JOBS. */
    private static TickKeeper full() {
        TickKeeper x = woken(12, 0);
        for (int n = 24; n < 60; n++) x.twin(n - 24);
        return x;
    }

    private static TickKeeper down(int scheduler) {
        TickKeeper x = hourlyAt(2, 60);
        x.wake(scheduler);
        x.crash(scheduler);
        return x;
    }

    private void now() {
        sentence(19, "NOW becomes a later MINUTE (or stays): 1.");
        TickKeeper x = new TickKeeper();
        due("it stays at the first", x.now(0), 1);
        due("by one", x.now(1), 1);
        due("it stays", x.now(1), 1);
        due("count(0)", x.count(0), 1);
        due("one ahead of the last", x.now(LAST - 1), 1);
        due("the last", x.now(LAST), 1);
        due("it stays at the last", x.now(LAST), 1);
        due("count(0)", x.count(0), LAST);
        sentence(19, "BAD; STATE: it is earlier.");
        badBeside("minute", () -> hourlyAt(1, 60), 0, LAST, m -> k -> k.now(m));
        refused("one earlier", () -> hourlyAt(1, 60), STATE, k -> k.now(59));
        refused("the first", () -> hourlyAt(1, 60), STATE, k -> k.now(0));
        refused("one earlier than the last", () -> hourlyAt(1, LAST), STATE, k -> k.now(LAST - 1));
        refused("BAD ahead of STATE", () -> hourlyAt(1, LAST), BAD, k -> k.now(-1));
    }

    private void wake() {
        sentence(20, "A SCHEDULER is woken: for each JOB by number that is not PAUSED, and has a DUE MINUTE above its own REGISTER's UP TO and not above NOW, or a RUN, a RUN begins (anew): how many.");
        due("no jobs", zones(1).wake(0), 0);
        due("none is due", jobs(12).wake(0), 0);
        for (int s = 0; s < 3; s++) due("scheduler " + s + ", twelve jobs", hourly(12).wake(s), 12);
        TickKeeper order = hourly(3);
        order.pause(1, true);
        due("one is paused", order.wake(0), 2);
        due("by number: the first", order.letter(0, 3), 0);
        due("by number: the second", order.letter(2, 3), 2);
        due("the paused one has no run", order.register(0, 1, 4), 0);
        TickKeeper running = woken(1, 0);
        running.pause(0, true);
        due("paused, with a run", running.wake(0), 0);
        due("it is the same run", running.register(0, 0, 4), 3);
        running.pause(0, false);
        due("not paused", running.wake(0), 1);
        due("anew", running.register(0, 0, 4), 6);
        due("one run", running.count(4), 1);
        TickKeeper writes = writing(60);
        due("one that writes", writes.wake(0), 1);
        registerIs(writes, 0, 0, 6, 3, 0, 1, 6, 1, NONE);
        TickKeeper idle = woken(1, 0);
        idle.except(0, 0);
        due("a run, though nothing is due", idle.wake(0), 1);
        idle.flow(50);
        due("no run, and nothing is due", idle.wake(0), 0);
        TickKeeper others = woken(1, 0);
        others.except(0, 0);
        due("another one's run is not its own", others.wake(1), 0);
    }

    private void wakeByMinutes() {
        for (int now : new int[] {59, 60, 61}) {
            TickKeeper x = jobs(1);
            dailyAt(x, 0, 60);
            x.now(now);
            due("due at 60, now " + now, x.wake(0), now < 60 ? 0 : 1);
            TickKeeper y = hourly(1);
            wakeAndFlow(y, 0);
            y.now(now);
            due("up to 0, next due at 60, now " + now, y.wake(0), now < 60 ? 0 : 1);
        }
        TickKeeper first = hourly(1);
        due("minute 0 is above -1", first.wake(0), 1);
        first.flow(50);
        due("minute 0 is not above 0", first.wake(0), 0);
        TickKeeper own = writing(0);
        loseAll(own);
        own.crash(0);
        own.restart(0);
        due("its own register is up to 0", own.wake(0), 0);
        due("the others' are not", own.wake(1), 1);
        TickKeeper behind = hourly(1);
        behind.crash(2);
        wakeAndFlow(behind, 0);
        behind.restart(2);
        due("its own is not, the others' are", behind.wake(2), 1);
        TickKeeper last = jobs(1);
        dailyAt(last, 0, DAY - 1);
        last.catchUp(0, ALL, 0);
        last.now(LAST);
        due("the last minute", last.wake(0), 1);
        last.flow(50);
        due("is done", last.effect(0, 0, 0), LAST);
        due("nothing is above it", last.wake(0), 0);
    }

    private void wakeRefusals() {
        sentence(20, "BAD; STATE: it is down.");
        badBeside("scheduler", () -> hourlyAt(2, 60), 0, 2, s -> x -> x.wake(s));
        for (int s = 0; s < 3; s++) {
            int scheduler = s;
            refused("scheduler " + s + " is down", () -> down(scheduler), STATE, x -> x.wake(scheduler));
            due("another one is up", down(s).wake((s + 1) % 3), 2);
        }
    }

    private void deliver() {
        sentence(21, "LETTER i is delivered: its kind.");
        due("the first of two", woken(1, 0).deliver(0), ASK);
        due("the last of two", woken(1, 0).deliver(1), ASK);
        TickKeeper all = full();
        due("the last of 60", all.deliver(59), ASK);
        letterIs(all, 59, PROMISE, 2, 0, 5, 3, 0, -1, 0);
        TickKeeper x = woken(1, 0);
        int[] kinds = {ASK, ASK, PROMISE, PROMISE, WRITE, WRITE, WRITTEN, WRITTEN, EFFECT};
        for (int kind : kinds) due("in their order", x.deliver(0), kind);
        due("none is left", x.count(3), 0);
        TickKeeper refuse = woken(1, 0);
        refuse.twin(0);
        refuse.deliver(0);
        refuse.deliver(1);
        due("a refusal", refuse.deliver(2), REFUSE);
        sentence(21, "BAD.");
        refused("none waits", LetterBounds::empty, BAD, k -> k.deliver(0));
        badBeside("of two", () -> woken(1, 0), 0, 1, i -> k -> k.deliver(i));
        badBeside("of 60", LetterBounds::full, 0, 59, i -> k -> k.deliver(i));
    }

    private void flow() {
        sentence(22, "The first LETTERS are delivered, one by one, n (1 .. 50) at most, also those that come meanwhile: how many.");
        TickKeeper one = woken(1, 0);
        due("one", one.flow(1), 1);
        due("it was the first", one.letter(0, 2), 2);
        due("its answer is behind all", one.letter(1, 0), PROMISE);
        for (int n = 1; n <= 11; n++) due("at most " + n + " of 9", woken(1, 0).flow(n), Math.min(n, 9));
        due("at most 50 of 9", woken(1, 0).flow(50), 9);
        due("none waits", empty().flow(1), 0);
        due("none waits, 50", empty().flow(50), 0);
        TickKeeper many = woken(12, 0);
        due("49 of 108", many.flow(49), 49);
        due("50 of 59", many.flow(50), 50);
        due("the rest", many.flow(50), 9);
        due("all were done", many.effects(11), 1);
        sentence(22, "BAD.");
        badBeside("n", () -> woken(12, 0), 1, 50, n -> k -> k.flow(n));
        refused("0, when none waits", LetterBounds::empty, BAD, k -> k.flow(0));
    }

    private void lose() {
        sentence(23, "LETTER i is lost: its kind.");
        TickKeeper x = woken(1, 0);
        due("the last", x.lose(1), ASK);
        due("one is left", x.count(3), 1);
        due("it is the first", x.letter(0, 2), 1);
        due("the first", x.lose(0), ASK);
        due("none is left", x.count(3), 0);
        registerIs(x, 1, 0, 0, 0, -1, 0, 0, 0, NONE);
        registerIs(x, 2, 0, 0, 0, -1, 0, 0, 0, NONE);
        due("it is none that had no room", x.count(5), 0);
        for (int kind = PROMISE; kind <= EFFECT; kind++) {
            TickKeeper y = withLast(kind);
            due("kind " + kind, y.lose(y.count(3) - 1), kind);
        }
        for (int lost : new int[] {0, 1, 30, 58, 59}) {
            TickKeeper before = full();
            TickKeeper all = full();
            due("letter " + lost + " of 60", all.lose(lost), ASK);
            due("59 wait", all.count(3), 59);
            for (int i = 0; i < 59; i++) {
                int was = i < lost ? i : i + 1;
                due("letter " + i + " when " + lost + " is lost: to", all.letter(i, 2), before.letter(was, 2));
                due("letter " + i + " when " + lost + " is lost: job", all.letter(i, 3), before.letter(was, 3));
            }
            due("there is room for one", all.twin(0), 60);
            due("not for two", all.twin(0), FULL);
        }
        sentence(23, "BAD.");
        refused("none waits", LetterBounds::empty, BAD, k -> k.lose(0));
        badBeside("of two", () -> woken(1, 0), 0, 1, i -> k -> k.lose(i));
        badBeside("of 60", LetterBounds::full, 0, 59, i -> k -> k.lose(i));
    }

    /** The last LETTER that waits is of that kind. */
    private static TickKeeper withLast(int kind) {
        TickKeeper x = kind == PROMISE ? woken(1, 0) : writing(0);
        if (kind == PROMISE) x.deliver(0);
        if (kind == WRITTEN) x.deliver(1);
        if (kind == REFUSE) {
            x.wake(1);
            x.deliver(1);
        }
        if (kind == EFFECT) {
            x.deliver(1);
            x.deliver(2);
        }
        return x;
    }

    private void twin() {
        sentence(24, "LETTER i once more, behind all: how many there are.");
        for (int kind = PROMISE; kind <= EFFECT; kind++) {
            TickKeeper x = withLast(kind);
            int last = x.count(3) - 1;
            due("kind " + kind, x.twin(last), last + 2);
            for (int what = 0; what < 8; what++) due("kind " + kind + ": " + what, x.letter(last + 1, what), x.letter(last, what));
        }
        TickKeeper first = woken(2, 0);
        due("the first", first.twin(0), 5);
        letterIs(first, 4, ASK, 0, 1, 0, 3, 0, 0, 0);
        letterIs(first, 0, ASK, 0, 1, 0, 3, 0, 0, 0);
        due("the last", first.twin(4), 6);
        TickKeeper many = woken(12, 0);
        for (int n = 25; n <= 60; n++) due("twin", many.twin(23), n);
        letterIs(many, 59, ASK, 0, 2, 11, 3, 0, 0, 0);
        sentence(24, "BAD; FULL.");
        refused("none waits", LetterBounds::empty, BAD, k -> k.twin(0));
        badBeside("of two", () -> woken(1, 0), 0, 1, i -> k -> k.twin(i));
        refused("the first, when full", LetterBounds::full, FULL, k -> k.twin(0));
        refused("the last, when full", LetterBounds::full, FULL, k -> k.twin(59));
        badBeside("BAD ahead of FULL", LetterBounds::full, 0, 59, i -> k -> k.twin(i));
    }

    private void letter() {
        sentence(25, "Of LETTER i: 0 its kind (0 ASK, 1 PROMISE, 2 WRITE, 3 WRITTEN, 4 REFUSE, 5 EFFECT), 1 from which SCHEDULER, 2 to which (5: DESK), 3 the JOB, 4 the ballot (5: the GUARD), 5 the ACCEPTED ballot (1), the PROMISED one (4), UP TO (2), the MINUTE (5), else 0, 6 UP TO (1), 7 the GUARD (1, 2), else 0.");
        // The second round of JOB 11, so that no number is one that it has at first.
        TickKeeper x = hourlyAt(12, 60);
        for (int j = 0; j < 11; j++) x.pause(j, true);
        wakeAndFlow(x, 1);
        x.wake(2);
        letterIs(x, 0, ASK, 2, 0, 11, 5, 0, 0, 0);
        letterIs(x, 1, ASK, 2, 1, 11, 5, 0, 0, 0);
        x.flow(2);
        letterIs(x, 0, PROMISE, 0, 2, 11, 5, 4, 0, 1);
        letterIs(x, 1, PROMISE, 1, 2, 11, 5, 4, 0, 1);
        x.flow(2);
        letterIs(x, 0, WRITE, 2, 0, 11, 5, 60, 0, 2);
        letterIs(x, 1, WRITE, 2, 1, 11, 5, 60, 0, 2);
        x.wake(0);
        x.deliver(0);
        letterIs(x, 3, REFUSE, 0, 2, 11, 5, 6, 0, 0);
        x.deliver(0);
        letterIs(x, 3, WRITTEN, 1, 2, 11, 5, 0, 0, 0);
        x.deliver(3);
        letterIs(x, 3, EFFECT, 2, 1, 11, 2, 60, 0, 0);
        letterIs(withLast(PROMISE), 1, PROMISE, 1, 0, 0, 3, 0, -1, 0);
        letterIs(full(), 59, ASK, 0, 2, 5, 3, 0, 0, 0);
        sentence(25, "BAD.");
        refused("none waits", LetterBounds::empty, BAD, k -> k.letter(0, 0));
        badBeside("of two", () -> woken(1, 0), 0, 1, i -> k -> k.letter(i, 0));
        badBeside("of 60", LetterBounds::full, 0, 59, i -> k -> k.letter(i, 7));
        badBeside("what", () -> woken(1, 0), 0, 7, w -> k -> k.letter(0, w));
    }

    private void crash() {
        sentence(26, "A SCHEDULER goes down: how many RUNS ended.");
        for (int s = 0; s < 3; s++) {
            due("no run", hourly(2).crash(s), 0);
            due("twelve runs", woken(12, s).crash(s), 12);
            due("another one's runs", woken(12, s).crash((s + 1) % 3), 0);
        }
        TickKeeper x = woken(2, 0);
        x.wake(1);
        due("its own", x.crash(0), 2);
        due("the other's stay", x.count(4), 2);
        due("letters stay", x.count(3), 8);
        due("one that writes", writing(60).crash(0), 1);
        due("all may be down", x.crash(1), 2);
        due("all may be down", x.crash(2), 0);
        due("no run is left", x.count(4), 0);
        sentence(26, "BAD; STATE: it is down.");
        badBeside("scheduler", () -> woken(2, 0), 0, 2, s -> k -> k.crash(s));
        for (int s = 0; s < 3; s++) {
            int scheduler = s;
            refused("scheduler " + s, () -> down(scheduler), STATE, k -> k.crash(scheduler));
        }
    }

    private void restart() {
        sentence(27, "It is up again: 1.");
        for (int s = 0; s < 3; s++) {
            TickKeeper x = down(s);
            due("scheduler " + s, x.restart(s), 1);
            registerIs(x, s, 0, 3 + s, 0, -1, 0, 0, 0, NONE);
            due("it wakes", x.wake(s), 2);
            due("it may go down again", x.crash(s), 2);
            due("and be up again", x.restart(s), 1);
        }
        sentence(27, "BAD; STATE: it is up.");
        badBeside("scheduler", () -> down(1), 0, 2, s -> k -> k.restart(s));
        for (int s = 0; s < 3; s++) {
            int scheduler = s;
            refused("scheduler " + s, () -> woken(2, 0), STATE, k -> k.restart(scheduler));
            refused("scheduler " + s + ", once more", () -> upAgain(scheduler), STATE, k -> k.restart(scheduler));
        }
        refused("what it was refused by stays seen", () -> refusedBy(8), STATE, k -> k.restart(1));
    }

    private static TickKeeper upAgain(int scheduler) {
        TickKeeper x = down(scheduler);
        x.restart(scheduler);
        return x;
    }

    private void desk() {
        sentence(28, "A DESK is down, or up: what it was (1 down).");
        for (int d = 0; d < 2; d++) {
            TickKeeper x = hourly(2);
            due("up at first, and stays so", x.desk(d, false), 0);
            due("down", x.desk(d, true), 0);
            due("down again", x.desk(d, true), 1);
            due("the other is up", x.desk(1 - d, false), 0);
            wakeAndFlow(x, 0);
            due("its job's effect is lost", x.effects(d), 0);
            due("the other's is not", x.effects(1 - d), 1);
            due("up", x.desk(d, false), 1);
            due("up again", x.desk(d, false), 0);
        }
        sentence(28, "BAD.");
        badBeside("desk", () -> hourly(2), 0, 1, d -> k -> k.desk(d, true));
        badBeside("desk, up", () -> hourly(2), 0, 1, d -> k -> k.desk(d, false));
    }
}
