/** Part 3 of the terms: REGISTERS, RUNS, LETTERS and DESKS. */
final class SchedulerBounds extends Bounds {
    @Override
    void all() {
        registers();
        ballots();
        ballotsAfterRefusals();
        asking();
        ask();
        promise();
        reading();
        write();
        written();
        refuse();
        claimOfAll();
        claimOfNewest();
        newestOfManyMinutes();
        claimOfNow();
        waiting();
        waitingForEffects();
        waitingByZones();
        runsThatEnd();
        newValue();
        passingOver();
        ownPromise();
        desks();
        effect();
        room();
        down();
        orderOfRefusals();
    }

    // ---- registers and ballots

    private void registers() {
        sentence(TERMS, "3 SCHEDULERS 0 .. 2 have of each JOB a REGISTER that a crash leaves: the PROMISED ballot, the ACCEPTED one (0 at first), and the VALUE of that: UP TO (-1), a GUARD (0);");
        for (int s = 0; s < 3; s++) {
            for (int job : new int[] {0, 11}) registerIs(jobs(12), s, job, 0, 0, -1, 0, 0, 0, NONE);
            TickKeeper x = hourlyAt(12, 60);
            for (int j = 0; j < 11; j++) x.pause(j, true);
            wakeAndFlow(x, s);
            x.crash(s);
            registerIs(x, s, 11, 3 + s, 3 + s, 0, 1, 0, 0, NONE);
            registerIs(x, s, 10, 0, 0, -1, 0, 0, 0, NONE);
            x.restart(s);
            registerIs(x, s, 11, 3 + s, 3 + s, 0, 1, 0, 0, NONE);
        }
        badBeside("a scheduler", () -> hourly(1), 0, 2, s -> x -> x.wake(s));
        sentence(TERMS, "and perhaps a RUN, which a crash ends.");
        TickKeeper asks = woken(1, 1);
        registerIs(asks, 1, 0, 4, 0, -1, 0, 4, 1, NONE);
        due("a run that asks", asks.crash(1), 1);
        registerIs(asks, 1, 0, 4, 0, -1, 0, 0, 0, NONE);
        TickKeeper writes = writing(60);
        registerIs(writes, 0, 0, 3, 3, 0, 1, 3, 2, 0);
        due("a run that writes", writes.crash(0), 1);
        registerIs(writes, 0, 0, 3, 3, 0, 1, 0, 0, NONE);
        writes.restart(0);
        writes.flow(50);
        due("what it wrote is not done by it", writes.effects(0), 0);
        registerIs(writes, 1, 0, 3, 3, 0, 1, 0, 0, NONE);
    }

    private void ballots() {
        sentence(TERMS, "A RUN of SCHEDULER s begins with the least ballot 3 n + s (n 1, 2, ..) above all that it has SEEN of that JOB (its PROMISED one, those that it asked by or was refused by; a crash leaves its PROMISED one): it becomes its PROMISED one;");
        for (int s = 0; s < 3; s++) {
            due("the first one of " + s, woken(1, s).register(s, 0, 4), 3 + s);
            for (int ballot = 3; ballot <= 14; ballot++) {
                TickKeeper x = promised(s, ballot);
                due("promised", x.register(s, 0, 0), ballot);
                x.wake(s);
                due("scheduler " + s + " above " + ballot, x.register(s, 0, 4), leastAbove(ballot, s));
                due("it becomes the promised one", x.register(s, 0, 0), leastAbove(ballot, s));
                due("the letter tells it", x.letter(0, 4), leastAbove(ballot, s));
            }
        }
        TickKeeper jobs = woken(2, 0);
        jobs.pause(1, true);
        jobs.wake(0);
        jobs.pause(1, false);
        due("job 0's second", jobs.register(0, 0, 4), 6);
        jobs.wake(0);
        due("job 0's third", jobs.register(0, 0, 4), 9);
        due("each job has its own", jobs.register(0, 1, 4), 6);
    }

    private void ballotsAfterRefusals() {
        for (int ballot : new int[] {5, 6, 8, 9, 11, 12}) {
            TickKeeper x = refusedBy(ballot);
            registerIs(x, 1, 0, 4, 0, -1, 0, 0, 0, NONE);
            x.wake(1);
            due("refused by " + ballot, x.register(1, 0, 4), leastAbove(ballot, 1));
            TickKeeper y = refusedBy(ballot);
            y.crash(1);
            y.restart(1);
            y.wake(1);
            due("refused by " + ballot + ", ahead of a crash", y.register(1, 0, 4), 7);
        }
        TickKeeper x = refusedBy(8);
        makePromise(x, 1, 11);
        x.wake(1);
        due("the promised one is above what it was refused by", x.register(1, 0, 4), 13);
        TickKeeper y = woken(1, 1);
        y.crash(1);
        y.restart(1);
        y.wake(1);
        due("what it asked by is its promised one", y.register(1, 0, 4), 7);
        // 1 has PROMISED 10, 2 has PROMISED 4; 0 is refused by both, in either order.
        for (int first = 1; first <= 2; first++) {
            TickKeeper z = hourly(1);
            for (int n = 0; n < 3; n++) z.wake(1);
            deliverAsk(z, 4, 2);
            loseAll(z);
            z.wake(0);
            z.flow(2);
            due("refused", deliver(z, REFUSE, first, 0), REFUSE);
            due("refused again", deliver(z, REFUSE, 3 - first, 0), REFUSE);
            z.wake(0);
            due("above the higher one", z.register(0, 0, 4), 12);
        }
    }

    // ---- the letters

    private void asking() {
        sentence(TERMS, "ASK goes to the others, the lower one first;");
        int[][] others = {{1, 2}, {0, 2}, {0, 1}};
        for (int s = 0; s < 3; s++) {
            TickKeeper x = woken(1, s);
            due("two letters", x.count(3), 2);
            letterIs(x, 0, ASK, s, others[s][0], 0, 3 + s, 0, 0, 0);
            letterIs(x, 1, ASK, s, others[s][1], 0, 3 + s, 0, 0, 0);
        }
        sentence(TERMS, "its own ACCEPTED ballot and VALUE are its first answer.");
        // 0 accepted UP TO 0 by itself; with the answer of one that has nothing it goes on behind it.
        TickKeeper x = writing(60);
        loseAll(x);
        x.wake(0);
        deliver(x, ASK, 0, 2);
        deliver(x, PROMISE, 2, 0);
        registerIs(x, 0, 0, 6, 6, 60, 2, 6, 2, 60);
        firstAnswerIsOld();
        TickKeeper alone = woken(1, 0);
        due("it needs another one's", alone.register(0, 0, 5), 1);
        alone.deliver(0);
        due("asked, not answered", alone.register(0, 0, 5), 1);
        alone.deliver(1);
        due("one answer more is enough", alone.register(0, 0, 5), 2);
    }

    /** The RUN's answer is of when it began, also when its REGISTER has accepted another VALUE meanwhile. */
    private void firstAnswerIsOld() {
        TickKeeper x = hourlyAt(2, DAY);
        x.pause(0, true);
        x.mask(0, 2, 1L << 1);
        x.catchUp(1, NEWEST, DAY);
        x.wake(0);
        deliver(x, ASK, 0, 2);
        x.wake(1);
        deliver(x, ASK, 1, 0);
        deliver(x, PROMISE, 0, 1);
        deliver(x, WRITE, 1, 0);
        registerIs(x, 0, 1, 4, 4, DAY, 1, 3, 1, NONE);
        x.catchUp(1, ALL, DAY);
        x.after(1, 0);
        due("the answer to the old run", deliver(x, PROMISE, 2, 0), PROMISE);
        due("it found minute 0, whose day has one that is not done", x.waiting(1), 1);
        registerIs(x, 0, 1, 4, 4, DAY, 1, 0, 0, NONE);
    }

    private void ask() {
        sentence(TERMS, "ASK (ballot): if it is above the PROMISED one, it becomes that, and PROMISE (ballot, ACCEPTED ballot, VALUE) goes back; else REFUSE (ballot, the PROMISED one).");
        TickKeeper first = woken(1, 0);
        first.deliver(1);
        letterIs(first, 1, PROMISE, 2, 0, 0, 3, 0, -1, 0);
        due("it becomes that", first.register(2, 0, 0), 3);
        TickKeeper above = promised(2, 3);
        above.wake(1);
        above.deliver(1);
        letterIs(above, 1, PROMISE, 2, 1, 0, 4, 0, -1, 0);
        due("above by one", above.register(2, 0, 0), 4);
        TickKeeper same = woken(1, 1);
        same.twin(1);
        same.deliver(1);
        same.deliver(1);
        letterIs(same, 2, REFUSE, 2, 1, 0, 4, 4, 0, 0);
        due("the same", same.register(2, 0, 0), 4);
        TickKeeper below = promised(2, 4);
        below.wake(0);
        below.deliver(1);
        letterIs(below, 1, REFUSE, 2, 0, 0, 3, 4, 0, 0);
        due("below by one", below.register(2, 0, 0), 4);
        TickKeeper accepted = hourlyAt(1, 60);
        wakeAndFlow(accepted, 2);
        accepted.wake(0);
        accepted.deliver(0);
        letterIs(accepted, 1, PROMISE, 1, 0, 0, 6, 5, 0, 1);
        registerIs(accepted, 1, 0, 6, 5, 0, 1, 0, 0, NONE);
    }

    private void promise() {
        sentence(TERMS, "PROMISE: it counts, if a RUN of that ballot still asks, and that one has not answered it.");
        TickKeeper second = writing(60);
        second.deliver(0);
        due("the other's promise", second.deliver(2), PROMISE);
        due("the run writes already: no letter more", second.count(3), 2);
        registerIs(second, 0, 0, 3, 3, 0, 1, 3, 2, 0);
        TickKeeper twin = woken(1, 0);
        twin.deliver(0);
        twin.twin(1);
        twin.deliver(1);
        due("a promise once more", twin.deliver(1), PROMISE);
        due("no letter more", twin.count(3), 3);
        TickKeeper anew = woken(1, 0);
        anew.deliver(0);
        anew.wake(0);
        due("a promise to the run ahead of it", anew.deliver(1), PROMISE);
        registerIs(anew, 0, 0, 6, 0, -1, 0, 6, 1, NONE);
        TickKeeper ended = woken(1, 0);
        ended.deliver(0);
        ended.crash(0);
        ended.restart(0);
        due("a promise to a run that ended", ended.deliver(1), PROMISE);
        registerIs(ended, 0, 0, 3, 0, -1, 0, 0, 0, NONE);
        due("no letter more", ended.count(3), 1);
    }

    private void reading() {
        sentence(TERMS, "With it two have: of these the VALUE of the higher ACCEPTED ballot (both alike: the RUN's own) is READ, and the RUN DECIDES.");
        TickKeeper none = writing(60);
        registerIs(none, 0, 0, 3, 3, 0, 1, 3, 2, 0);
        TickKeeper theirs = hourlyAt(1, 60);
        theirs.crash(2);
        wakeAndFlow(theirs, 0);
        theirs.restart(2);
        theirs.wake(2);
        theirs.deliver(0);
        theirs.deliver(1);
        registerIs(theirs, 2, 0, 5, 5, 60, 2, 5, 2, 60);
        // 0 alone has accepted UP TO 0 by ballot 3, then 1 and 2 UP TO 60 by ballot 4.
        for (int reader = 0; reader < 2; reader++) {
            TickKeeper x = writing(60);
            loseAll(x);
            x.crash(0);
            x.catchUp(0, NEWEST, DAY);
            wakeAndFlow(x, 1);
            registerIs(x, 1, 0, 4, 4, 60, 1, 0, 0, NONE);
            x.restart(0);
            x.now(120);
            x.catchUp(0, ALL, DAY);
            x.wake(reader);
            x.deliver(0);
            x.deliver(1);
            int ballot = reader == 0 ? 6 : 7;
            registerIs(x, reader, 0, ballot, ballot, 120, 2, ballot, 2, 120);
        }
        TickKeeper alike = hourlyAt(1, 60);
        wakeAndFlow(alike, 0);
        alike.wake(1);
        alike.deliver(0);
        letterIs(alike, 1, PROMISE, 0, 1, 0, 4, 3, 0, 1);
        alike.deliver(1);
        registerIs(alike, 1, 0, 4, 4, 60, 2, 4, 2, 60);
    }

    private void write() {
        sentence(TERMS, "WRITE (ballot, VALUE): if it is not below the PROMISED one, that and the ACCEPTED one become it, and the VALUE that; WRITTEN (ballot) goes back; else REFUSE.");
        TickKeeper same = writing(60);
        due("the promised one", same.deliver(1), WRITE);
        registerIs(same, 1, 0, 3, 3, 0, 1, 0, 0, NONE);
        letterIs(same, 2, WRITTEN, 1, 0, 0, 3, 0, 0, 0);
        due("above the promised one", same.deliver(1), WRITE);
        registerIs(same, 2, 0, 3, 3, 0, 1, 0, 0, NONE);
        letterIs(same, 2, WRITTEN, 2, 0, 0, 3, 0, 0, 0);
        TickKeeper twin = writing(60);
        twin.twin(1);
        twin.deliver(1);
        due("once more", twin.deliver(2), WRITE);
        letterIs(twin, 3, WRITTEN, 1, 0, 0, 3, 0, 0, 0);
        TickKeeper below = writing(60);
        below.wake(1);
        due("below by one", below.deliver(1), WRITE);
        registerIs(below, 1, 0, 4, 0, -1, 0, 4, 1, NONE);
        letterIs(below, 4, REFUSE, 1, 0, 0, 3, 4, 0, 0);
    }

    private void written() {
        sentence(TERMS, "WRITTEN: if a RUN of that ballot still writes, it is done: the JOB's PASSED grows by 1, if DUE MINUTES were passed over; if a MINUTE was claimed, EFFECT (it, the GUARD) goes to the DESK. The RUN ends.");
        TickKeeper x = writing(60);
        x.deliver(1);
        x.deliver(1);
        due("the first answer", x.deliver(1), WRITTEN);
        letterIs(x, 2, EFFECT, 0, 0, 0, 1, 0, 0, 0);
        registerIs(x, 0, 0, 3, 3, 0, 1, 0, 0, NONE);
        due("nothing was passed over", x.passed(0), 0);
        due("the second answer", x.deliver(1), WRITTEN);
        due("is too late", x.count(3), 2);
        TickKeeper over = hourlyAt(1, 130);
        over.catchUp(0, ALL, 0);
        over.wake(0);
        over.flow(6);
        due("not yet", over.passed(0), 0);
        due("the answer", over.deliver(0), WRITTEN);
        due("three at once are one", over.passed(0), 1);
        due("no minute, no effect", over.count(3), 1);
        due("the second answer", over.deliver(0), WRITTEN);
        due("does not count again", over.passed(0), 1);
        TickKeeper anew = writing(60);
        anew.deliver(1);
        anew.wake(0);
        due("an answer to the run ahead of it", anew.deliver(2), WRITTEN);
        registerIs(anew, 0, 0, 6, 3, 0, 1, 6, 1, NONE);
        deliverAsk(anew, 6, 1);
        deliver(anew, PROMISE, 1, 0);
        registerIs(anew, 0, 0, 6, 6, 60, 2, 6, 2, 60);
        TickKeeper both = writing(60);
        both.deliver(1);
        both.wake(0);
        deliverAsk(both, 6, 1);
        deliver(both, PROMISE, 1, 0);
        due("the same, when the new run writes", deliver(both, WRITTEN, 1, 0), WRITTEN);
        registerIs(both, 0, 0, 6, 6, 60, 2, 6, 2, 60);
    }

    private void refuse() {
        sentence(TERMS, "REFUSE: the ballot told is SEEN; a RUN of the ballot that is refused ends.");
        TickKeeper asks = promised(0, 5);
        asks.wake(1);
        asks.deliver(0);
        due("refused", asks.deliver(1), REFUSE);
        registerIs(asks, 1, 0, 4, 0, -1, 0, 0, 0, NONE);
        asks.wake(1);
        due("above what was told", asks.register(1, 0, 4), 7);
        TickKeeper anew = promised(0, 8);
        anew.wake(1);
        anew.deliver(0);
        anew.wake(1);
        due("a refusal of the run ahead of it", anew.deliver(1), REFUSE);
        registerIs(anew, 1, 0, 7, 0, -1, 0, 7, 1, NONE);
        anew.wake(1);
        due("what it told is seen all the same", anew.register(1, 0, 4), 10);
        TickKeeper writes = writing(60);
        writes.wake(1);
        writes.deliver(1);
        due("a write is refused", writes.deliver(4), REFUSE);
        registerIs(writes, 0, 0, 3, 3, 0, 1, 0, 0, NONE);
        TickKeeper late = promised(0, 8);
        late.wake(1);
        late.deliver(0);
        late.crash(1);
        late.restart(1);
        due("one that comes behind a crash", late.deliver(1), REFUSE);
        late.wake(1);
        due("is seen, too", late.register(1, 0, 4), 10);
        TickKeeper twice = promised(0, 8);
        twice.wake(1);
        twice.deliver(0);
        twice.twin(1);
        twice.deliver(1);
        twice.wake(1);
        due("once more, of a run that ended", deliver(twice, REFUSE, 0, 1), REFUSE);
        registerIs(twice, 1, 0, 10, 0, -1, 0, 10, 1, NONE);
    }

    // ---- to decide

    /** One JOB, DUE at 130, 140 and 150 of each day, whose REGISTERS are UP TO u. */
    private static TickKeeper upTo(int u) {
        TickKeeper x = jobs(1);
        daily(x, 0, 1L << 10 | 1L << 20 | 1L << 30, 1L << 2);
        x.now(u);
        x.runNow(0);
        wakeAndFlow(x, 0);
        return x;
    }

    private void claims(int mode, int[][] cases) {
        for (int[] c : cases) {
            String name = "lateness " + c[0] + ", u " + c[1] + ", now " + c[2];
            TickKeeper x = upTo(c[1]);
            due(name + ": u", x.register(0, 0, 2), c[1]);
            x.catchUp(0, mode, c[0]);
            x.now(c[2]);
            x.wake(0);
            x.flow(4);
            due(name, x.register(0, 0, 6), c[3]);
        }
    }

    private void claimOfAll() {
        sentence(TERMS, "TO DECIDE: with u that UP TO: of ALL the first DUE MINUTE above u that is not below NOW less the LATENESS, if it is not above NOW, is claimed;");
        claims(ALL, new int[][] {{0, 129, 129, NONE}, {0, 129, 130, 130}, {0, 130, 130, NONE}, {0, 129, 131, NONE},
            {1, 129, 131, 130}, {0, 129, 140, 140}, {9, 129, 140, 140}, {10, 129, 140, 130}, {10, 130, 140, 140},
            {11, 129, 140, 130}, {DAY, 129, 150, 130}, {DAY, 130, 150, 140}, {DAY, 139, 150, 140}, {DAY, 140, 150, 150},
            {DAY, 140, 149, NONE}, {DAY, 149, 150, 150}, {DAY, 150, 150, NONE}, {DAY, 150, 1569, NONE}, {DAY, 150, 1570, 1570},
            {DAY, 129, 1570, 130}, {DAY, 129, 1571, 140}});
        TickKeeper x = hourlyAt(1, 1439);
        x.wake(0);
        x.flow(4);
        due("NOW less the lateness is below 0", x.register(0, 0, 6), 0);
    }

    private void claimOfNewest() {
        sentence(TERMS, "of NEWEST the last such one;");
        claims(NEWEST, new int[][] {{0, 129, 129, NONE}, {0, 129, 130, 130}, {0, 130, 130, NONE}, {0, 129, 131, NONE},
            {1, 129, 131, 130}, {0, 129, 150, 150}, {9, 129, 149, 140}, {8, 129, 149, NONE}, {DAY, 129, 150, 150},
            {DAY, 129, 149, 140}, {DAY, 129, 139, 130}, {DAY, 140, 150, 150}, {DAY, 149, 150, 150}, {DAY, 150, 150, NONE},
            {DAY, 129, 1569, 150}, {DAY, 129, 1570, 1570}, {DAY, 129, 1571, 1570}, {1419, 129, 1569, 150}, {1418, 129, 1569, NONE}});
    }

    private void newestOfManyMinutes() {
        // DUE at each of 120 .. 179: now, lateness, what is claimed
        int[][] cases = {{120, 0, 120}, {121, DAY, 121}, {150, DAY, 150}, {178, DAY, 178}, {179, DAY, 179}, {180, DAY, 179},
            {200, 21, 179}, {200, 20, NONE}, {1559, DAY, 179}, {1560, DAY, 1560}, {1561, 3, 1561}};
        for (int[] c : cases) {
            TickKeeper x = jobs(1);
            daily(x, 0, -1L, 1L << 2);
            x.catchUp(0, NEWEST, c[1]);
            x.now(c[0]);
            x.wake(0);
            x.flow(4);
            due("now " + c[0] + ", lateness " + c[1], x.register(0, 0, 6), c[2]);
        }
    }

    private void claimOfNow() {
        sentence(TERMS, "of NONE only NOW, if it is DUE and above u.");
        claims(ONLY_NOW, new int[][] {{DAY, 129, 129, NONE}, {DAY, 129, 130, 130}, {DAY, 130, 130, NONE}, {DAY, 129, 131, NONE},
            {DAY, 129, 140, 140}, {0, 129, 140, 140}, {DAY, 139, 140, 140}, {DAY, 140, 140, NONE}, {0, 129, 141, NONE}});
    }

    /** JOB 1, DUE at each MINUTE, waits for JOB 0 of another ZONE, which is PAUSED and DUE at one LOCAL minute of a month. */
    private static TickKeeper waiterFor(int minute) {
        TickKeeper x = zones(2);
        x.job(0);
        x.job(1);
        dailyAt(x, 0, minute % DAY);
        x.mask(0, 2, 1L << minute / DAY + 1);
        x.pause(0, true);
        daily(x, 1, -1L, -1L);
        x.catchUp(1, ONLY_NOW, 0);
        x.after(1, 0);
        return x;
    }

    private void waiting() {
        sentence(TERMS, "If one is claimed, and the JOB waits for others: for each by number: that one's LOCAL day of the MINUTE (in the other's ZONE): if it has a DUE MINUTE whose LOCAL day this is, and none that was EFFECTED is of it, the JOB WAITS for it.");
        for (int minute : new int[] {DAY - 1, DAY, DAY + 1, 2 * DAY - 1, 2 * DAY}) {
            for (int now : new int[] {DAY - 1, DAY, DAY + 700, 2 * DAY - 1, 2 * DAY}) {
                String name = "the other is due at " + minute + ", claimed is " + now;
                int waits = minute / DAY == now / DAY ? 1 : 0;
                TickKeeper x = waiterFor(minute);
                x.now(now);
                wakeAndFlow(x, 0);
                due(name, x.waiting(1), waits);
                due(name + ": effects", x.effects(1), 1 - waits);
            }
        }
        TickKeeper excepted = waiterFor(DAY);
        excepted.except(0, DAY);
        excepted.now(DAY);
        wakeAndFlow(excepted, 0);
        due("the only due minute of the day is excepted", excepted.waiting(1), 0);
        TickKeeper extra = waiterFor(5 * DAY);
        extra.now(DAY);
        extra.runNow(0);
        extra.now(DAY + 7);
        wakeAndFlow(extra, 0);
        due("an extra is a due minute of the day", extra.waiting(1), 1);
        TickKeeper nothing = waiterFor(DAY);
        dailyAt(nothing, 1, 0);
        nothing.now(DAY + 1);
        wakeAndFlow(nothing, 0);
        due("none is claimed, so none is waited for", nothing.waiting(1), 0);
        due("what was due is passed over", nothing.passed(1), 1);
        TickKeeper three = hourly(12);
        for (int other : new int[] {9, 10, 11}) three.after(0, other);
        for (int j = 1; j < 12; j++) three.pause(j, true);
        three.mask(10, 0, 0L);
        wakeAndFlow(three, 1);
        due("of three others the first and the last", three.waiting(0), 1 << 9 | 1 << 11);
        due("without others none", three.waiting(11), 0);
    }

    private void waitingForEffects() {
        for (int done : new int[] {DAY - 1, DAY, DAY + 1, 2 * DAY - 1}) {
            TickKeeper x = jobs(2);
            daily(x, 0, -1L, -1L);
            x.catchUp(0, ONLY_NOW, 0);
            daily(x, 1, -1L, -1L);
            x.catchUp(1, ONLY_NOW, 0);
            x.after(1, 0);
            x.pause(1, true);
            x.now(done);
            wakeAndFlow(x, 0);
            due("effected", x.effect(0, 0, 0), done);
            x.pause(0, true);
            x.pause(1, false);
            x.now(2 * DAY - 1);
            wakeAndFlow(x, 1);
            due("the other's was effected at " + done, x.waiting(1), done < DAY ? 1 : 0);
            x.now(2 * DAY);
            wakeAndFlow(x, 1);
            due("none of the next day", x.waiting(1), 1);
        }
        TickKeeper sent = hourly(2);
        sent.after(1, 0);
        sent.pause(1, true);
        sent.wake(0);
        sent.flow(8);
        due("the effect waits to be delivered", sent.letter(0, 0), EFFECT);
        sent.pause(1, false);
        sent.wake(1);
        deliver(sent, ASK, 1, 0);
        deliver(sent, PROMISE, 0, 1);
        due("it is not effected yet", sent.waiting(1), 1);
        sent.flow(50);
        wakeAndFlow(sent, 1);
        due("now it is", sent.waiting(1), 0);
        due("done", sent.effects(1), 1);
    }

    private void waitingByZones() {
        // JOB 0's ZONE is 14 hours ahead or back: its days begin at 600 or 840 of JOB 1's.
        int[][] cases = {{840, 599, 0}, {840, 600, 1}, {840, 2039, 1}, {840, 2040, 0},
            {-840, 839, 0}, {-840, 840, 1}, {-840, 2279, 1}, {-840, 2280, 0}};
        for (int[] c : cases) {
            TickKeeper x = waiterFor(c[0] > 0 ? DAY + 720 : 720);
            x.shift(0, 0, c[0]);
            x.now(c[1]);
            wakeAndFlow(x, 0);
            due("offset " + c[0] + ", claimed is " + c[1], x.waiting(1), c[2]);
        }
        // Day 1 is left at 1500, after an hour, and comes again at 2160: MINUTES 1440 .. 1499 and 2160 .. 3599 are of it.
        int[][] again = {{1439, 0}, {1440, 1}, {1499, 1}, {1500, 0}, {2159, 0}, {2160, 1}, {3599, 1}, {3600, 0}};
        for (int[] c : again) {
            TickKeeper x = waiterFor(DAY + 1000);
            x.shift(0, 1500, -720);
            due("its due minute", x.due(0, 0), DAY + 1000 + 720);
            x.now(c[0]);
            wakeAndFlow(x, 0);
            due("a day that comes again, claimed is " + c[0], x.waiting(1), c[1]);
        }
        // An EXTRA at 1600 is of day 0, which came again, and lies amid day 1.
        int[][] amid = {{1600, 1}, {2159, 1}, {2160, 0}, {3599, 0}};
        for (int[] c : amid) {
            TickKeeper x = waiterFor(0);
            x.mask(0, 0, 0L);
            x.shift(0, 1500, -720);
            x.now(1600);
            due("an extra", x.runNow(0), 1);
            x.now(c[0]);
            wakeAndFlow(x, 0);
            due("an extra of a day that came again, claimed is " + c[0], x.waiting(1), c[1]);
        }
        // The LOCAL minute is of day 0, but it is left out; its MOMENT is of day 1.
        TickKeeper leftOut = waiterFor(DAY - 30);
        leftOut.shift(0, DAY - 60, 60);
        due("the moment", leftOut.due(0, 0), DAY - 60);
        leftOut.now(DAY - 61);
        wakeAndFlow(leftOut, 0);
        due("it is no due minute of day 0", leftOut.waiting(1), 0);
        leftOut.now(DAY - 59);
        wakeAndFlow(leftOut, 0);
        due("but of day 1", leftOut.waiting(1), 1);
    }

    private void runsThatEnd() {
        sentence(TERMS, "If it WAITS for some, or nothing is DUE above u up to NOW, or it is PAUSED: the RUN ends.");
        TickKeeper waits = waiterFor(0);
        waits.wake(0);
        waits.flow(4);
        registerIs(waits, 0, 1, 3, 0, -1, 0, 0, 0, NONE);
        due("it waits: nothing is written", waits.count(3), 0);
        // 2 knows of nothing; what it reads is UP TO 0, and the next is DUE at 60.
        for (int now : new int[] {0, 59, 60}) {
            TickKeeper x = hourly(1);
            x.crash(2);
            wakeAndFlow(x, 0);
            x.restart(2);
            x.now(now);
            due("it has one due of its own register", x.wake(2), 1);
            x.flow(4);
            registerIs(x, 2, 0, 5, now == 60 ? 5 : 0, now == 60 ? 60 : -1, now == 60 ? 2 : 0, now == 60 ? 5 : 0);
        }
        TickKeeper paused = woken(1, 0);
        paused.pause(0, true);
        paused.flow(4);
        registerIs(paused, 0, 0, 3, 0, -1, 0, 0, 0, NONE);
        due("paused: nothing is written", paused.count(3), 0);
        TickKeeper off = woken(1, 0);
        off.pause(0, true);
        off.pause(0, false);
        off.flow(4);
        due("not paused any more", off.register(0, 0, 5), 2);
        TickKeeper writes = writing(60);
        writes.pause(0, true);
        writes.flow(50);
        due("paused when it writes: it is done", writes.effects(0), 1);
    }

    private void newValue() {
        sentence(TERMS, "Else the new VALUE: UP TO is the MINUTE, GUARD one more; without a MINUTE UP TO is NOW, the GUARD as it was.");
        TickKeeper x = hourlyAt(1, 130);
        x.wake(0);
        x.flow(4);
        registerIs(x, 0, 0, 3, 3, 0, 1, 3, 2, 0);
        x.flow(50);
        x.catchUp(0, ALL, 69);
        x.wake(0);
        x.flow(4);
        registerIs(x, 0, 0, 6, 6, 120, 2, 6, 2, 120);
        x.flow(50);
        x.now(181);
        x.catchUp(0, ALL, 0);
        x.wake(0);
        x.flow(4);
        registerIs(x, 0, 0, 9, 9, 181, 2, 9, 2, NONE);
        letterIs(x, 0, WRITE, 0, 1, 0, 9, 181, 0, 2);
        x.flow(50);
        x.now(240);
        x.wake(0);
        x.flow(4);
        registerIs(x, 0, 0, 12, 12, 240, 3, 12, 2, 240);
        TickKeeper first = hourlyAt(1, 1);
        first.catchUp(0, ONLY_NOW, 0);
        first.wake(0);
        first.flow(4);
        registerIs(first, 0, 0, 3, 3, 1, 0, 3, 2, NONE);
    }

    private void passingOver() {
        sentence(TERMS, "(DUE MINUTES above u and below it, up to NOW without it, are passed over.)");
        // mode, lateness, u, now, how often it grows
        int[][] cases = {{ALL, 10, 129, 140, 0}, {ALL, 9, 129, 140, 1}, {ALL, 9, 130, 140, 0}, {ALL, 0, 129, 130, 0},
            {ALL, 0, 129, 131, 1}, {ALL, 0, 130, 141, 1}, {ALL, DAY, 129, 150, 0}, {NEWEST, DAY, 129, 150, 1},
            {NEWEST, DAY, 139, 150, 1}, {NEWEST, DAY, 140, 150, 0}, {NEWEST, DAY, 129, 130, 0}, {NEWEST, 0, 129, 151, 1},
            {ONLY_NOW, 0, 129, 140, 1}, {ONLY_NOW, 0, 130, 140, 0}, {ONLY_NOW, 0, 130, 139, 0}, {ONLY_NOW, 0, 130, 141, 1}};
        for (int[] c : cases) {
            TickKeeper x = upTo(c[2]);
            int before = x.passed(0);
            x.catchUp(0, c[0], c[1]);
            x.now(c[3]);
            wakeAndFlow(x, 0);
            due("mode " + c[0] + ", lateness " + c[1] + ", u " + c[2] + ", now " + c[3], x.passed(0) - before, c[4]);
        }
    }

    private void ownPromise() {
        sentence(TERMS, "If its own PROMISED ballot is above the RUN's, the RUN ends; else it accepts that itself, and WRITE goes to the others, the lower one first.");
        TickKeeper above = woken(1, 0);
        above.deliver(1);
        above.wake(1);
        deliverAsk(above, 4, 0);
        registerIs(above, 0, 0, 4, 0, -1, 0, 3, 1, NONE);
        due("the answer to its own", deliver(above, PROMISE, 2, 0), PROMISE);
        registerIs(above, 0, 0, 4, 0, -1, 0, 0, 0, NONE);
        due("nothing is written", deliver(above, WRITE, 0, 1), NONE);
        int[][] others = {{1, 2}, {0, 2}, {0, 1}};
        for (int s = 0; s < 3; s++) {
            TickKeeper x = woken(1, s);
            x.flow(4);
            registerIs(x, s, 0, 3 + s, 3 + s, 0, 1, 3 + s, 2, 0);
            due("two letters", x.count(3), 2);
            letterIs(x, 0, WRITE, s, others[s][0], 0, 3 + s, 0, 0, 1);
            letterIs(x, 1, WRITE, s, others[s][1], 0, 3 + s, 0, 0, 1);
        }
        TickKeeper later = writing(60);
        later.wake(1);
        deliverAsk(later, 4, 0);
        due("promised while it writes", later.register(0, 0, 5), 2);
        deliver(later, WRITE, 0, 2);
        due("it is done all the same", deliver(later, WRITTEN, 2, 0), WRITTEN);
        due("its effect goes", deliver(later, EFFECT, 0, 0), EFFECT);
        due("and is taken", later.effect(0, 0, 0), 0);
    }

    // ---- desks and letters

    private void desks() {
        sentence(TERMS, "DESKS 0, 1: JOB j's is j mod 2.");
        for (int down = 0; down < 2; down++) {
            TickKeeper x = hourly(12);
            x.desk(down, true);
            x.wake(0);
            for (int k = 0; k < 3; k++) x.flow(50);
            for (int j = 0; j < 12; j++) due("job " + j + ", desk " + down + " is down", x.effects(j), j % 2 == down ? 0 : 1);
        }
    }

    /** The EFFECTS of MINUTES 0 and 60 (GUARDS 1 and 2) wait, alone. */
    private static TickKeeper twoEffects() {
        TickKeeper x = hourlyAt(1, 60);
        x.wake(0);
        x.flow(8);
        x.wake(0);
        for (int i = 0; i < 8; i++) x.deliver(1);
        return x;
    }

    private void effect() {
        sentence(TERMS, "EFFECT is taken, if its GUARD is above that of the latest one taken of that JOB (0), and its MINUTE above that one's (-1): the MINUTE is EFFECTED.");
        TickKeeper inOrder = twoEffects();
        due("two wait", inOrder.count(3), 2);
        letterIs(inOrder, 0, EFFECT, 0, 0, 0, 1, 0, 0, 0);
        letterIs(inOrder, 1, EFFECT, 0, 0, 0, 2, 60, 0, 0);
        due("the first: guard 1, minute 0", inOrder.deliver(0), EFFECT);
        due("taken", inOrder.effects(0), 1);
        due("the second: guard 2, minute 60", inOrder.deliver(0), EFFECT);
        due("taken", inOrder.effects(0), 2);
        due("none was refused", inOrder.count(6), 0);
        TickKeeper late = twoEffects();
        late.deliver(1);
        due("the second alone", late.effect(0, 0, 0), 60);
        late.deliver(0);
        due("the first comes too late", late.effects(0), 1);
        due("and is refused", late.count(6), 1);
        TickKeeper twin = twoEffects();
        twin.twin(0);
        twin.deliver(0);
        twin.deliver(1);
        due("the same guard and minute", twin.effects(0), 1);
        due("refused", twin.count(6), 1);
        twin.deliver(0);
        due("the next is taken", twin.effect(0, 1, 0), 60);
        TickKeeper others = hourly(3);
        wakeAndFlow(others, 0);
        due("each job has its own latest", others.effects(0) + others.effects(1) + others.effects(2), 3);
        effectsLeaveSchedulers();
    }

    /** DESKS bear the numbers of SCHEDULERS, but what comes to the one is nothing to the other. */
    private void effectsLeaveSchedulers() {
        for (int desk = 0; desk < 2; desk++) {
            TickKeeper x = hourlyAt(2, 60);
            x.pause(1 - desk, true);
            x.wake(desk);
            x.flow(8);
            due("the effect waits alone", x.count(3), 1);
            x.wake(desk);
            registerIs(x, desk, desk, 6 + desk, 3 + desk, 0, 1, 6 + desk, 1, NONE);
            x.twin(0);
            due("an effect", x.deliver(0), EFFECT);
            registerIs(x, desk, desk, 6 + desk, 3 + desk, 0, 1, 6 + desk, 1, NONE);
            due("the run asks still", x.count(3), 3);
            due("one more, which is refused", x.deliver(2), EFFECT);
            registerIs(x, desk, desk, 6 + desk, 3 + desk, 0, 1, 6 + desk, 1, NONE);
            due("taken once", x.effects(desk), 1);
        }
        TickKeeper down = twoEffects();
        down.crash(0);
        down.deliver(0);
        due("a desk is up when the scheduler of its number is down", down.effects(0), 1);
    }

    private void room() {
        sentence(TERMS, "LETTERS (60 at most) wait in a row, as they were sent; one for which there is no room is lost.");
        for (int there = 57; there <= 60; there++) {
            TickKeeper x = woken(12, 0);
            fill(x, there);
            due("runs begin", x.wake(1), 12);
            due(there + " and 24 more", x.count(3), 60);
            due(there + ": lost", x.count(5), 24 - (60 - there));
            for (int i = there; i < 60; i++) {
                int sent = i - there;
                letterIs(x, i, ASK, 1, sent % 2 == 0 ? 0 : 2, sent / 2, 4, 0, 0, 0);
            }
            due("runs of which no letter was sent ask, too", x.register(1, 11, 5), 1);
        }
        TickKeeper answer = woken(12, 0);
        fill(answer, 60);
        answer.deliver(0);
        due("an answer has the room of what it answers", answer.count(3), 60);
        due("none is lost", answer.count(5), 0);
        letterIs(answer, 59, PROMISE, 1, 0, 0, 3, 0, -1, 0);
        answer.deliver(59);
        letterIs(answer, 59, WRITE, 0, 1, 0, 3, 0, 0, 1);
        due("the other write is lost", answer.count(5), 1);
        registerIs(answer, 0, 0, 3, 3, 0, 1, 3, 2, 0);
        TickKeeper last = woken(12, 0);
        fill(last, 59);
        last.deliver(0);
        last.deliver(58);
        due("both writes have room", last.count(3), 60);
        due("none is lost", last.count(5), 0);
        TickKeeper row = woken(2, 0);
        int[][] sent = {{1, 0}, {2, 0}, {1, 1}, {2, 1}};
        for (int i = 0; i < 4; i++) letterIs(row, i, ASK, 0, sent[i][0], sent[i][1], 3, 0, 0, 0);
        row.lose(1);
        due("the next moves up", row.letter(1, 3), 1);
        due("the last, too", row.letter(2, 2), 2);
        due("none behind it", row.letter(3, 0), BAD);
    }

    private void down() {
        sentence(TERMS, "What is delivered to a SCHEDULER or DESK that is down is lost.");
        TickKeeper ask = woken(1, 0);
        ask.crash(1);
        due("an ask", ask.deliver(0), ASK);
        due("is not answered", ask.count(3), 1);
        registerIs(ask, 1, 0, 0, 0, -1, 0, 0, 0, NONE);
        TickKeeper promise = woken(1, 0);
        promise.deliver(0);
        promise.crash(0);
        due("a promise", promise.deliver(1), PROMISE);
        promise.restart(0);
        registerIs(promise, 0, 0, 3, 0, -1, 0, 0, 0, NONE);
        TickKeeper write = writing(60);
        write.crash(1);
        due("a write", write.deliver(1), WRITE);
        due("is not answered", write.count(3), 2);
        registerIs(write, 1, 0, 3, 0, -1, 0, 0, 0, NONE);
        TickKeeper written = writing(60);
        written.deliver(1);
        written.crash(0);
        due("a written", written.deliver(2), WRITTEN);
        due("nothing goes to a desk", written.count(3), 2);
        TickKeeper refuse = promised(0, 8);
        refuse.wake(1);
        refuse.deliver(0);
        refuse.crash(1);
        due("a refusal", refuse.deliver(1), REFUSE);
        refuse.restart(1);
        refuse.wake(1);
        due("what it told is not seen", refuse.register(1, 0, 4), 7);
        TickKeeper effect = twoEffects();
        effect.desk(0, true);
        due("an effect", effect.deliver(0), EFFECT);
        due("is not taken", effect.effects(0), 0);
        due("nor refused", effect.count(6), 0);
        due("nor lost for want of room", effect.count(5), 0);
        effect.desk(0, false);
        effect.deliver(0);
        due("the next one is taken", effect.effect(0, 0, 1), 2);
        TickKeeper other = twoEffects();
        other.desk(1, true);
        other.deliver(0);
        due("the other desk is up", other.effects(0), 1);
        TickKeeper sender = woken(1, 0);
        sender.crash(0);
        sender.deliver(0);
        due("what one that is down has sent goes its way", sender.register(1, 0, 0), 3);
    }

    private static TickKeeper secondDown() {
        TickKeeper x = hourlyAt(1, 60);
        x.crash(1);
        return x;
    }

    private void orderOfRefusals() {
        sentence(TERMS, "Refused, and nothing changes, the first of these: BAD (a number is not as told, or there is no such thing), STATE (as told), FULL.");
        refused("a minute below 0 is earlier, too", () -> hourlyAt(1, 60), BAD, x -> x.now(-1));
        refused("two numbers are wrong", () -> hourly(1), BAD, x -> x.mask(1, 5, 0L));
        refused("three numbers are wrong", () -> zones(1), BAD, x -> x.shift(1, -1, 841));
        refused("no such scheduler, one is down", SchedulerBounds::secondDown, BAD, x -> x.wake(3));
        refused("no such scheduler, one is down", SchedulerBounds::secondDown, BAD, x -> x.crash(-1));
        refused("no such scheduler, two are up", SchedulerBounds::secondDown, BAD, x -> x.restart(3));
        refused("STATE", SchedulerBounds::secondDown, STATE, x -> x.crash(1));
        refused("STATE", SchedulerBounds::secondDown, STATE, x -> x.restart(0));
        refused("STATE", SchedulerBounds::secondDown, STATE, x -> x.wake(1));
        refused("FULL", () -> zones(3), FULL, x -> x.zone());
    }
}
