/**
 * The document's sentences that name a boundary case, each with a test of its own, in the
 * document's order: what it says stands above the test.
 */
public final class EdgesTest {
    private static final Checks checks = new Checks("EdgesTest");
    private static final long LEAST = Long.MIN_VALUE;
    private static final long GREATEST = Long.MAX_VALUE;
    /** What an int would take for 0: a number that is only in range if its upper half is lost. */
    private static final long WRAPPED = 1L << 32;

    public static void main(String[] args) {
        terms();
        activations();
        later();
        sections();
        spans();
        answersThereAreNot();
        makingTasks();
        tellingTasks();
        asking();
        plainConditions();
        plainRuns();
        checks.end();
    }

    private static void terms() {
        atMostSixteenTasks();
        tasksAtFirst();
        costIsOwnAndSpin();
        atMostEightInterrupts();
        interruptsAreAboveAllTasks();
        theGreaterRankIsTheHigher();
    }

    private static void activations() {
        dByInnerUpwards();
        dAndJitterByPeriodUpwards();
        nTimes();
        theLessOfBoth();
        interruptsByPeriodUpwards();
    }

    private static void later() {
        laterByInner();
        laterByPeriodLessJitter();
        laterByWholeGroups();
        laterNotBelowZero();
    }

    private static void sections() {
        ceilingIsTheGreatestRank();
        ceilingNotBelowItsOwn();
        onlyLowerRanksBlock();
        blockingIsTheGreatestSection();
        noBlockingIfThereIsNone();
    }

    private static void spans() {
        tasksOfARankNotLower();
        spansEndAtLater();
        spansGoOnAboveLater();
        reasonIsTheFirst();
        everyChangeIsSeen();
    }

    private static void answersThereAreNot() {
        noSpanAbove40000();
        noTurn500();
        noAnswerAboveThePeriod();
        noSpanAtAll();
    }

    private static void makingTasks() {
        newObjectHasNone();
        taskRanges();
        taskOfPeriodZero();
        taskRefusalsInOrder();
        interruptRanges();
        interruptRefusalsInOrder();
    }

    private static void tellingTasks() {
        unknownTasksFirst();
        jitterRange();
        burstRanges();
        sectionRanges();
        sectionRoom();
        offsetRange();
        spinRange();
    }

    private static void asking() {
        answerOfNoTask();
        reasonRows();
        reasonWhats();
        reasonOfRowsZeroAndOne();
        longerToThousand();
        longerForAllTasks();
        longerOfNone();
        busyIsWholeForEach();
        busyCountsAndGreatest();
    }

    private static void plainConditions() {
        plainWithoutAnswer();
        plainOfAtMostThree();
        plainOfPlainTasksAlone();
        plainPeriodsAtMost60();
        plainBusyAtMostAMillion();
    }

    private static void plainRuns() {
        plainForAllPhases();
        plainPhasesAsTold();
        plainAtMostTheAnswerIfTold();
        plainFirstComeThenNumber();
        plainWhoRanGoesOn();
        plainOfThreeTimesTheMultiple();
    }

    private static void due(String call, long want, long got) {
        checks.due(call, want, got);
    }

    private static void due(String call, boolean want, boolean got) {
        checks.due(call, want, got);
    }

    private static long add(AnswerSums sums, long own, long period, int rank) {
        return Checks.task(sums, own, period, rank);
    }

    /** Tasks of {OWN, PERIOD, RANK}. */
    private static AnswerSums of(int[]... tasks) {
        AnswerSums sums = new AnswerSums();
        for (int i = 0; i < tasks.length; i++) {
            due("of: task", i + 1, add(sums, tasks[i][0], tasks[i][1], tasks[i][2]));
        }
        return sums;
    }

    private static int[] t(int own, int period, int rank) {
        return new int[] {own, period, rank};
    }

    /** Task 1 (rank 2), blocked for a time by task 2 (1 of 20000, rank 1). */
    private static AnswerSums blocked(int own, int period, int blocking) {
        AnswerSums sums = of(t(own, period, 2), t(1, 20000, 1));
        due("blocked: section", 1, sums.section(2, 5, blocking));
        due("blocked: ceiling", 1, sums.section(1, 5, 1));
        due("blocked: by", blocking, sums.answer(1) == -1 ? blocking : sums.reason(1, 1, 1));
        return sums;
    }

    /** How many activations of task 1 (rank 2) there are in task 2's span. */
    private static void activationsDue(String what, long howMany, long span, AnswerSums sums) {
        due(what + ": span", span, sums.answer(2));
        due(what + ": activations", howMany, sums.reason(2, 2, 0));
    }

    // Terms

    /** "TASKS are numbered from 1 on, at most 16" */
    private static void atMostSixteenTasks() {
        AnswerSums sums = new AnswerSums();
        for (int number = 1; number <= 16; number++) {
            due("task " + number, number, add(sums, 1, 20000, 7));
        }
        due("task 17", -4, add(sums, 1, 20000, 7));
        due("answer of 16", 16, sums.answer(16));
        due("answer of 17", -2, sums.answer(17));
    }

    /** "at first without JITTER (0), with 1 at a time, INNER 1, no SPIN (0)" */
    private static void tasksAtFirst() {
        AnswerSums sums = of(t(1, 2, 2), t(1, 4, 1));
        // with JITTER 1: 3; with 2 at a time: none; with SPIN 1: none
        due("at first: below 1 of 2", 2, sums.answer(2));
        due("at first: busy", 750000, sums.busy(0));
        due("at first: plain", true, sums.plain(2));
        sums = of(t(1, 10, 2), t(1, 100, 1));
        due("INNER at first: jitter", 1, sums.jitter(1, 30));
        activationsDue("INNER at first", 4, 5, sums);
        due("INNER told: burst", 1, sums.burst(1, 1, 2));
        activationsDue("INNER told", 1, 2, sums);
        due("INNER as at first: burst", 1, sums.burst(1, 1, 1));
        activationsDue("INNER as at first", 4, 5, sums);
    }

    /** "COST of a task is OWN and SPIN together" */
    private static void costIsOwnAndSpin() {
        AnswerSums sums = of(t(3, 100, 2), t(5, 100, 1));
        due("cost: spin", 1, sums.spin(1, 4));
        due("cost: its own answer", 7, sums.answer(1));
        due("cost: its own row", 7, sums.reason(1, 0, 1));
        due("cost: row of another", 7, sums.reason(2, 2, 1));
        due("cost: answer of another", 12, sums.answer(2));
        due("cost: busy", 120000, sums.busy(0));
    }

    /** "INTERRUPTS, at most 8" */
    private static void atMostEightInterrupts() {
        AnswerSums sums = of(t(1, 20000, 0));
        for (int number = 1; number <= 8; number++) {
            due("interrupt " + number, number, sums.interrupt(1, 20000));
        }
        due("interrupt 9", -4, sums.interrupt(1, 20000));
        due("interrupts: answer", 9, sums.answer(1));
        due("interrupts: row of 8", -8, sums.reason(1, 9, 2));
        due("interrupts: no row of 9", -1, sums.reason(1, 10, 2));
    }

    /** "are above all tasks" */
    private static void interruptsAreAboveAllTasks() {
        AnswerSums sums = of(t(1, 100, 255));
        due("above all: interrupt", 1, sums.interrupt(2, 100));
        due("above all: answer", 3, sums.answer(1));
    }

    /** "a RANK (0 .. 255, the greater one is the higher)" */
    private static void theGreaterRankIsTheHigher() {
        AnswerSums sums = of(t(1, 100, 0), t(2, 100, 255), t(4, 100, 254));
        due("rank 0", 7, sums.answer(1));
        due("rank 255", 2, sums.answer(2));
        due("rank 254", 6, sums.answer(3));
    }

    // How many activations

    /** "d / INNER upwards" */
    private static void dByInnerUpwards() {
        AnswerSums sums = of(t(1, 20000, 2), t(4, 20000, 1));
        due("by INNER: burst", 1, sums.burst(1, 20, 5));
        activationsDue("a span of INNER", 1, 5, sums);
        sums = of(t(1, 20000, 2), t(5, 20000, 1));
        due("by INNER: burst again", 1, sums.burst(1, 20, 5));
        activationsDue("a span above INNER", 2, 7, sums);
        due("by INNER: greatest", 1, sums.burst(1, 20, 20000));
        activationsDue("the greatest INNER", 1, 6, sums);
    }

    /** "(d + JITTER) / PERIOD upwards" */
    private static void dAndJitterByPeriodUpwards() {
        AnswerSums sums = of(t(1, 10, 2), t(9, 100, 1));
        activationsDue("a span of the PERIOD", 1, 10, sums);
        due("by PERIOD: jitter 1", 1, sums.jitter(1, 1));
        activationsDue("with JITTER 1", 2, 11, sums);
        due("by PERIOD: jitter 9", 1, sums.jitter(1, 9));
        activationsDue("with JITTER 9: 20", 2, 11, sums);
        due("by PERIOD: jitter 10", 1, sums.jitter(1, 10));
        activationsDue("with JITTER 10: 22", 3, 12, sums);
        activationsDue("a span above the PERIOD", 2, 12, of(t(1, 10, 2), t(10, 100, 1)));
    }

    /** "and n times" */
    private static void nTimes() {
        AnswerSums sums = of(t(1, 100, 2), t(80, 20000, 1));
        due("n times: 20", 1, sums.burst(1, 20, 1));
        activationsDue("a span of the PERIOD with n 20", 20, 100, sums);
        sums = of(t(1, 100, 2), t(81, 20000, 1));
        due("n times: 20 again", 1, sums.burst(1, 20, 1));
        activationsDue("a span above the PERIOD with n 20", 40, 121, sums);
    }

    /** "the less of d / INNER upwards and n times ((d + JITTER) / PERIOD upwards)" */
    private static void theLessOfBoth() {
        AnswerSums sums = of(t(1, 100, 2), t(10, 20000, 1));
        due("the less: burst", 1, sums.burst(1, 3, 5));
        activationsDue("both are 3", 3, 13, sums);
        due("the less: burst by 6", 1, sums.burst(1, 3, 6));
        activationsDue("INNER's is the less", 2, 12, sums);
        due("the less: burst of 2", 1, sums.burst(1, 2, 5));
        activationsDue("n's is the less", 2, 12, sums);
    }

    /** "of an interrupt d / PERIOD upwards" */
    private static void interruptsByPeriodUpwards() {
        AnswerSums sums = of(t(9, 100, 1));
        due("interrupt: 1 of 10", 1, sums.interrupt(1, 10));
        due("interrupt: a span of the PERIOD", 10, sums.answer(1));
        due("interrupt: once", 1, sums.reason(1, 2, 0));
        sums = of(t(10, 100, 1));
        due("interrupt: 1 of 10 again", 1, sums.interrupt(1, 10));
        due("interrupt: a span above the PERIOD", 12, sums.answer(1));
        due("interrupt: twice", 2, sums.reason(1, 2, 0));
    }

    // LATER

    /** "the greatest of q INNER, .." */
    private static void laterByInner() {
        AnswerSums sums = of(t(2, 20, 1));
        due("q INNER: 3 at a time", 1, sums.burst(1, 3, 1));
        // 2, 4 less 1, 6 less 2
        due("q INNER: answer", 4, sums.answer(1));
        due("q INNER: its own row", 6, sums.reason(1, 0, 1));
    }

    /** ".. (q / n whole) PERIOD - JITTER .." */
    private static void laterByPeriodLessJitter() {
        AnswerSums sums = of(t(2, 20, 1));
        due("less JITTER: 18", 1, sums.jitter(1, 18));
        due("less JITTER: LATER(1) is 2", 2, sums.answer(1));
        due("less JITTER: 19", 1, sums.jitter(1, 19));
        due("less JITTER: LATER(1) is 1", 3, sums.answer(1));
    }

    /** ".. q / n whole .." */
    private static void laterByWholeGroups() {
        AnswerSums sums = of(t(6, 10, 1));
        due("whole: 2 at a time", 1, sums.burst(1, 2, 6));
        // LATER(1) is 6, by INNER alone: the first span ends there
        due("whole: by INNER", 6, sums.answer(1));
        due("whole: 2 at a time, sooner", 1, sums.burst(1, 2, 5));
        // 6, 12 less 5; of 12 microseconds in 10 there is no end
        due("whole: of too much", -1, sums.answer(1));
        sums = of(t(5, 10, 1));
        due("whole: 2 of 5", 1, sums.burst(1, 2, 4));
        // 5, 10 less 4; LATER(2) is 10
        due("whole: of all there is", 6, sums.answer(1));
    }

    /** ".. and 0" */
    private static void laterNotBelowZero() {
        AnswerSums sums = of(t(5, 20000, 1));
        due("not below 0: jitter", 1, sums.jitter(1, 20000));
        due("not below 0: burst", 1, sums.burst(1, 1, 20000));
        due("not below 0: answer", 5, sums.answer(1));
    }

    // SECTIONS, CEILING, BLOCKING

    /** "The CEILING of a resource is the greatest RANK of tasks with a section of it." */
    private static void ceilingIsTheGreatestRank() {
        AnswerSums sums = of(t(1, 1000, 1), t(1, 1000, 5), t(1, 1000, 3));
        due("ceiling: of 1 alone", 1, sums.section(1, 1, 10));
        due("ceiling 1: not rank 3", 2, sums.answer(3));
        due("ceiling: and 2", 1, sums.section(2, 1, 1));
        due("ceiling 5: rank 3", 12, sums.answer(3));
        due("ceiling 5: rank 5", 11, sums.answer(2));
        due("ceiling: and 3, which is not the greatest", 1, sums.section(3, 1, 1));
        due("ceiling 5: rank 5 as before", 11, sums.answer(2));
    }

    /** "whose resource's CEILING is not below its own" */
    private static void ceilingNotBelowItsOwn() {
        AnswerSums sums = of(t(1, 1000, 1), t(1, 1000, 2), t(1, 1000, 3));
        due("not below: 1 holds 32", 1, sums.section(1, 32, 10));
        due("not below: 2 holds 32", 1, sums.section(2, 32, 1));
        due("not below: the same", 12, sums.answer(2));
        due("not below: it is below", 1, sums.answer(3));
        // another resource has a CEILING of its own
        due("not below: 3 holds 31", 1, sums.section(3, 31, 1));
        due("not below: of 32 it is still below", 1, sums.answer(3));
    }

    /** "of a task of a lower RANK" */
    private static void onlyLowerRanksBlock() {
        AnswerSums sums = of(t(1, 1000, 0), t(1, 1000, 0), t(1, 1000, 255));
        due("lower: 1 holds", 1, sums.section(1, 1, 10));
        due("lower: 2 holds", 1, sums.section(2, 1, 20));
        due("lower: 3 holds", 1, sums.section(3, 1, 30));
        due("lower: not by one of the same RANK", 3, sums.answer(1));
        due("lower: not by its own", 3, sums.answer(2));
        due("lower: by the lower ones", 21, sums.answer(3));
    }

    /** "BLOCKING of a task is the greatest section" */
    private static void blockingIsTheGreatestSection() {
        AnswerSums sums = of(t(1, 2000, 1), t(1, 2000, 2));
        due("greatest: 2 holds", 1, sums.section(2, 1, 1000));
        due("greatest: 1 of length 1", 1, sums.section(1, 1, 1));
        due("greatest: 1", 2, sums.answer(2));
        due("greatest: length 1000", 2, sums.section(1, 1, 1000));
        due("greatest: 1000", 1001, sums.answer(2));
        due("greatest: length 999", 3, sums.section(1, 1, 999));
        due("greatest: as before", 1001, sums.answer(2));
        due("greatest: of what is not shared", 4, sums.section(1, 2, 1000));
        due("greatest: as before too", 1000, sums.reason(2, 1, 1));
    }

    /** "0 if there is none" */
    private static void noBlockingIfThereIsNone() {
        AnswerSums sums = of(t(1, 1000, 1), t(1, 1000, 2));
        due("none: no sections", 0, sums.reason(2, 1, 1));
        due("none: of the lowest", 0, sums.reason(1, 1, 1));
    }

    // THE SPAN, THE ANSWER, REASON

    /** "for all other tasks of a RANK not lower" */
    private static void tasksOfARankNotLower() {
        AnswerSums sums = of(t(1, 1000, 7), t(2, 1000, 6), t(4, 1000, 7), t(8, 1000, 8));
        due("not lower: of 7", 13, sums.answer(1));
        due("not lower: of 6", 15, sums.answer(2));
        due("not lower: of 7 again", 13, sums.answer(3));
        due("not lower: of 8", 8, sums.answer(4));
    }

    /** "to the first one that is not above LATER(q + 1)" */
    private static void spansEndAtLater() {
        // the next spans would never end
        due("at LATER: all the time", 5, of(t(5, 5, 1)).answer(1));
        due("at LATER: the greatest", 1000, of(t(1000, 1000, 1)).answer(1));
        due("at LATER: together", 10, of(t(5, 10, 2), t(5, 10, 1)).answer(2));
    }

    /** "(that one, too)" */
    private static void spansGoOnAboveLater() {
        AnswerSums sums = of(t(5, 10, 1));
        due("above LATER: 2 at a time", 1, sums.burst(1, 2, 4));
        // 5 is above LATER(1), 4; the last one, 10 less 4, is the greatest
        due("above LATER: answer", 6, sums.answer(1));
        due("above LATER: its own row", 10, sums.reason(1, 0, 1));
        due("above LATER: by INNER 5", 1, sums.burst(1, 2, 5));
        due("above LATER: it is not", 5, sums.answer(1));
        due("above LATER: its own row, then", 5, sums.reason(1, 0, 1));
    }

    /** "the REASON the first q for which it is that" */
    private static void reasonIsTheFirst() {
        AnswerSums sums = blocked(2, 10, 3);
        due("first: 2 at a time, 2 apart", 1, sums.burst(1, 2, 2));
        // 5 less 0, 7 less 2
        due("first: answer", 5, sums.answer(1));
        due("first: its own row", 2, sums.reason(1, 0, 1));
        due("first: 2 at a time, 1 apart", 1, sums.burst(1, 2, 1));
        due("first: answer of the second", 6, sums.answer(1));
        due("first: its own row of the second", 4, sums.reason(1, 0, 1));
    }

    /** THE ANSWER is of the tasks and interrupts as they are, also if it was asked for before. */
    private static void everyChangeIsSeen() {
        AnswerSums sums = of(t(5, 100, 2));
        due("seen: at first", 5, sums.answer(1));
        due("seen: task", 2, add(sums, 7, 100, 2));
        due("seen: with another", 12, sums.answer(1));
        due("seen: lower task", 3, add(sums, 1, 100, 1));
        due("seen: section", 1, sums.section(3, 1, 3));
        due("seen: no ceiling yet", 12, sums.answer(1));
        due("seen: ceiling", 1, sums.section(2, 1, 1));
        due("seen: with a section", 15, sums.answer(1));
        due("seen: interrupt", 1, sums.interrupt(2, 100));
        due("seen: with an interrupt", 17, sums.answer(1));
        due("seen: burst", 1, sums.burst(2, 2, 1));
        due("seen: with a burst", 24, sums.answer(1));
        due("seen: spin", 1, sums.spin(1, 1));
        due("seen: with spin", 25, sums.answer(1));
        due("seen: jitter", 1, sums.jitter(2, 90));
        due("seen: with jitter", 39, sums.answer(1));
        due("seen: greatest", 39, sums.busy(2));
        sums = of(t(2, 4, 3), t(2, 4, 3));
        due("seen: not plain", false, sums.plain(1));
        due("seen: phase", 1, sums.offset(2, 1));
        due("seen: with a phase", true, sums.plain(1));
    }

    /** "There is none if a span would be above 40000" */
    private static void noSpanAbove40000() {
        // spans are a multiple of INNER - 1, and b: the first that is not above the next multiple
        // of INNER is that of q = b - 1, and 400 times 100 is 40000
        AnswerSums sums = blocked(99, 2000, 400);
        due("40000: burst", 1, sums.burst(1, 20, 100));
        due("40000: answer", 499, sums.answer(1));
        // 221 times 181 is 40001
        sums = blocked(180, 3620, 221);
        due("40001: burst", 1, sums.burst(1, 20, 181));
        due("40001: none", -1, sums.answer(1));
        due("40001: no reason", -1, sums.reason(1, 0, 1));
        // the last span may be the greatest, too: 40 times 999, and 40, less LATER(39), 35100
        sums = blocked(999, 20000, 40);
        due("40000 at the end: burst", 1, sums.burst(1, 20, 900));
        due("40000 at the end: answer", 4900, sums.answer(1));
        due("40000 at the end: its own row", 39960, sums.reason(1, 0, 1));
    }

    /** "q would come to 500" */
    private static void noTurn500() {
        // as above: the last span is that of q = b - 1
        AnswerSums sums = blocked(50, 1020, 500);
        due("q 499: burst", 1, sums.burst(1, 20, 51));
        due("q 499: answer", 550, sums.answer(1));
        sums = blocked(50, 1020, 501);
        due("q 500: burst", 1, sums.burst(1, 20, 51));
        due("q 500: none", -1, sums.answer(1));
        // the last one may be the greatest, too: 500 times 50, and 100, less LATER(499), 24451
        sums = blocked(50, 1004, 100);
        due("q 499 at the end: burst", 1, sums.burst(1, 20, 49));
        due("q 499 at the end: answer", 649, sums.answer(1));
        due("q 499 at the end: its own row", 25000, sums.reason(1, 0, 1));
    }

    /** "or the answer is above the PERIOD" */
    private static void noAnswerAboveThePeriod() {
        AnswerSums sums = of(t(6, 10, 1));
        due("PERIOD: interrupt", 1, sums.interrupt(4, 100));
        due("PERIOD: an answer of it", 10, sums.answer(1));
        sums = of(t(7, 10, 1));
        due("PERIOD: interrupt again", 1, sums.interrupt(4, 100));
        due("PERIOD: an answer above it", -1, sums.answer(1));
        // a later span than the first may be the one: 4, 8 less 1, 12 less 2
        sums = of(t(4, 12, 1));
        due("PERIOD: 3 at a time", 1, sums.burst(1, 3, 1));
        due("PERIOD: the third's", 10, sums.answer(1));
        sums = of(t(4, 9, 1));
        due("PERIOD: jitter", 1, sums.jitter(1, 17));
        // LATER(1) is 1, LATER(2) is 2, LATER(3) is 10: 4, 7, 10
        due("PERIOD: the third's is above it", -1, sums.answer(1));
    }

    /** "The least w above 0 with w = ..": where there is no such w, there is no ANSWER. */
    private static void noSpanAtAll() {
        AnswerSums sums = of(t(1, 1, 1), t(1, 20000, 0));
        due("no span: below one that takes all", -1, sums.answer(2));
        sums = of(t(1, 20000, 0));
        due("no span: interrupt", 1, sums.interrupt(1000, 1));
        due("no span: below an interrupt that takes all", -1, sums.answer(1));
        due("no span: reason", -1, sums.reason(1, 0, 0));
    }

    // Promises 1, 2, 12: what is made

    /** "No tasks, no interrupts." */
    private static void newObjectHasNone() {
        AnswerSums sums = new AnswerSums();
        due("new: no task", -2, sums.answer(1));
        due("new: busy", 0, sums.busy(0));
        due("new: how many", 0, sums.busy(1));
        due("new: greatest", 0, sums.busy(2));
        due("new: first task", 1, add(sums, 1, 10, 1));
        due("new: no other row", -1, sums.reason(1, 2, 1));
        due("new: first interrupt", 1, sums.interrupt(1, 10));
    }

    /** "-2 OWN time or RANK are none, or the PERIOD is below 0 or above 20000" */
    private static void taskRanges() {
        AnswerSums sums = new AnswerSums();
        for (long own : new long[] {LEAST, -1, 0, 1001, WRAPPED, WRAPPED + 1, GREATEST}) {
            due("task: own " + own, -2, add(sums, own, 5, 5));
        }
        for (long period : new long[] {LEAST, -1, 20001, WRAPPED, WRAPPED + 5, GREATEST}) {
            due("task: period " + period, -2, add(sums, 5, period, 5));
        }
        for (int rank : new int[] {Integer.MIN_VALUE, -1, 256, 65536, Integer.MAX_VALUE}) {
            due("task: rank " + rank, -2, add(sums, 5, 5, rank));
        }
        due("task: the least", 1, add(sums, 1, 1, 0));
        due("task: the greatest", 2, add(sums, 1000, 20000, 255));
        due("task: answer of the greatest", 1000, sums.answer(2));
    }

    /** "ArithmeticException when the PERIOD is 0, and there is room." */
    private static void taskOfPeriodZero() {
        AnswerSums sums = new AnswerSums();
        due("period 0: in an empty one", Checks.THROWN, add(sums, 1, 0, 0));
        due("period 0: made none", 1, add(sums, 1, 20000, 1));
        for (int number = 2; number <= 15; number++) {
            due("period 0: one more", number, add(sums, 1, 20000, 1));
        }
        due("period 0: with room for one", Checks.THROWN, add(sums, 1, 0, 0));
        due("period 0: that one", 16, add(sums, 1, 20000, 1));
        due("period 0: without room", -4, add(sums, 1, 0, 0));
    }

    /** "the first that fits: -2 outside a range, -4 no room", of task */
    private static void taskRefusalsInOrder() {
        AnswerSums sums = new AnswerSums();
        due("period 0 and own 1001", -2, add(sums, 1001, 0, 0));
        due("period 0 and rank -1", -2, add(sums, 1, 0, -1));
        for (int number = 1; number <= 16; number++) {
            due("full: task", number, add(sums, 1, 20000, 1));
        }
        due("full and own 0", -2, add(sums, 0, 5, 5));
        due("full and rank 256", -2, add(sums, 1, 5, 256));
        due("full and period -1", -2, add(sums, 1, -1, 5));
        due("full and period 20001", -2, add(sums, 1, 20001, 5));
        due("full and period 0 and own 0", -2, add(sums, 0, 0, 5));
        due("full", -4, add(sums, 1, 5, 5));
    }

    /** "-2 OWN time or PERIOD are none" */
    private static void interruptRanges() {
        AnswerSums sums = of(t(1, 20000, 0));
        for (long own : new long[] {LEAST, -1, 0, 1001, WRAPPED, WRAPPED + 1, GREATEST}) {
            due("interrupt: own " + own, -2, sums.interrupt(own, 5));
        }
        for (long period : new long[] {LEAST, -1, 0, 20001, WRAPPED, WRAPPED + 5, GREATEST}) {
            due("interrupt: period " + period, -2, sums.interrupt(5, period));
        }
        due("interrupt: the greatest", 1, sums.interrupt(1000, 20000));
        due("interrupt: with the greatest", 1001, sums.answer(1));
        due("interrupt: the least", 2, sums.interrupt(1, 1));
        due("interrupt: with the least", -1, sums.answer(1));
    }

    /** "-4 there are 8", and "the first that fits" */
    private static void interruptRefusalsInOrder() {
        AnswerSums sums = new AnswerSums();
        for (int number = 1; number <= 8; number++) {
            due("full: interrupt", number, sums.interrupt(1, 8));
        }
        due("full and own 0", -2, sums.interrupt(0, 8));
        due("full and own 1001", -2, sums.interrupt(1001, 8));
        due("full and period 0", -2, sums.interrupt(1, 0));
        due("full and period 20001", -2, sums.interrupt(1, 20001));
        due("full of interrupts", -4, sums.interrupt(1, 8));
        due("full of interrupts: busy", 1000000, sums.busy(0));
    }

    // Promises 3 to 6, 13: what tasks are told

    /** "the first that fits: -1 an unknown number", whatever else is wrong */
    private static void unknownTasksFirst() {
        AnswerSums sums = of(t(1, 10, 1), t(1, 10, 2));
        for (int number : new int[] {Integer.MIN_VALUE, -2, -1, 0, 3, 16, 17, Integer.MAX_VALUE}) {
            String of = " of task " + number;
            due("jitter" + of, -1, sums.jitter(number, 0));
            due("wrong jitter" + of, -1, sums.jitter(number, 20001));
            due("burst" + of, -1, sums.burst(number, 1, 1));
            due("wrong n" + of, -1, sums.burst(number, 21, 1));
            due("wrong inner" + of, -1, sums.burst(number, 1, 0));
            due("section" + of, -1, sums.section(number, 1, 1));
            due("wrong resource" + of, -1, sums.section(number, 33, 1));
            due("wrong length" + of, -1, sums.section(number, 1, 0));
            due("offset" + of, -1, sums.offset(number, -1));
            due("wrong offset" + of, -1, sums.offset(number, -2));
            due("spin" + of, -1, sums.spin(number, 0));
            due("wrong spin" + of, -1, sums.spin(number, 1001));
        }
        due("no sections were kept", 1, sums.section(1, 1, 1));
    }

    /** "-2 it is not 0 .. 20000" */
    private static void jitterRange() {
        AnswerSums sums = of(t(1, 20000, 1), t(1, 20000, 0));
        for (long micros : new long[] {LEAST, -1, 20001, WRAPPED, WRAPPED + 1, GREATEST}) {
            due("jitter " + micros, -2, sums.jitter(1, micros));
        }
        due("jitter: none yet", 2, sums.answer(2));
        due("jitter 20000", 1, sums.jitter(1, 20000));
        due("jitter: 2 in 3", 3, sums.answer(2));
        due("jitter 19999", 1, sums.jitter(1, 19999));
        due("jitter: 2 in 3, too", 3, sums.answer(2));
        due("jitter 19998", 1, sums.jitter(1, 19998));
        due("jitter: 1 in 2", 2, sums.answer(2));
        due("jitter 0", 1, sums.jitter(1, 0));
        due("jitter: none again", 2, sums.answer(2));
    }

    /** "How many a task has at a time (1 .. 20), and INNER (1 .. 20000): -2 other numbers." */
    private static void burstRanges() {
        AnswerSums sums = of(t(1, 20000, 1), t(30, 20000, 0));
        for (int n : new int[] {Integer.MIN_VALUE, -1, 0, 21, Integer.MAX_VALUE}) {
            due("burst of " + n, -2, sums.burst(1, n, 5));
        }
        for (long inner : new long[] {LEAST, -1, 0, 20001, WRAPPED, WRAPPED + 5, GREATEST}) {
            due("inner " + inner, -2, sums.burst(1, 5, inner));
        }
        due("n 0 and inner 0", -2, sums.burst(1, 0, 0));
        due("burst: none yet", 31, sums.answer(2));
        due("n 20 and inner 1", 1, sums.burst(1, 20, 1));
        due("burst: of 20", 50, sums.answer(2));
        due("n 1 and inner 20000", 1, sums.burst(1, 1, 20000));
        due("burst: of 1", 31, sums.answer(2));
        due("n 20 and inner 20000", 1, sums.burst(1, 20, 20000));
        due("burst: of 20, far apart", 31, sums.answer(2));
    }

    /** "-2 no such resource, or the length is not 1 .. 1000" */
    private static void sectionRanges() {
        AnswerSums sums = of(t(1, 20000, 0), t(1, 20000, 1));
        for (int resource : new int[] {Integer.MIN_VALUE, -1, 0, 33, Integer.MAX_VALUE}) {
            due("resource " + resource, -2, sums.section(1, resource, 5));
        }
        for (long length : new long[] {LEAST, -1, 0, 1001, WRAPPED, WRAPPED + 5, GREATEST}) {
            due("length " + length, -2, sums.section(1, 5, length));
        }
        due("resource 0 and length 0", -2, sums.section(1, 0, 0));
        due("resource 1", 1, sums.section(1, 1, 1));
        due("resource 1 of 2", 1, sums.section(2, 1, 1));
        due("length 1", 2, sums.answer(2));
        due("resource 32", 2, sums.section(1, 32, 1000));
        due("resource 32 of 2", 2, sums.section(2, 32, 1));
        due("length 1000", 1001, sums.answer(2));
    }

    /** "-4 it has 10", and "the first that fits" */
    private static void sectionRoom() {
        AnswerSums sums = of(t(1, 20000, 0), t(1, 20000, 1));
        for (int count = 1; count <= 9; count++) {
            due("room: section", count, sums.section(1, 5, 1));
        }
        due("room: of the other", 1, sums.section(2, 5, 1));
        due("room: the tenth", 10, sums.section(1, 5, 7));
        due("room: the tenth counts", 8, sums.answer(2));
        due("room: full", -4, sums.section(1, 5, 9));
        due("room: full, and no resource", -2, sums.section(1, 33, 9));
        due("room: full, and no length", -2, sums.section(1, 5, 1001));
        due("room: the eleventh does not", 8, sums.answer(2));
        due("room: in the other", 2, sums.section(2, 5, 1));
    }

    /** "0 .. PERIOD - 1, or -1: any: 1. -1 there is none, -2 another number." */
    private static void offsetRange() {
        AnswerSums sums = of(t(1, 7, 1), t(1, 1, 0), t(1, 20000, 0));
        for (long micros : new long[] {LEAST, -2, 7, 8, WRAPPED, WRAPPED - 1, WRAPPED + 3, GREATEST}) {
            due("offset of 7: " + micros, -2, sums.offset(1, micros));
        }
        for (long micros : new long[] {-1, 0, 6}) {
            due("offset of 7: " + micros, 1, sums.offset(1, micros));
        }
        due("offset of 1: 1", -2, sums.offset(2, 1));
        due("offset of 1: 0", 1, sums.offset(2, 0));
        due("offset of 1: -1", 1, sums.offset(2, -1));
        due("offset of 20000: 20000", -2, sums.offset(3, 20000));
        due("offset of 20000: 19999", 1, sums.offset(3, 19999));
    }

    /** "-2 it is not 0 .. 1000" */
    private static void spinRange() {
        AnswerSums sums = of(t(1, 20000, 1));
        for (long length : new long[] {LEAST, -1, 1001, WRAPPED, WRAPPED + 5, GREATEST}) {
            due("spin " + length, -2, sums.spin(1, length));
        }
        due("spin: none yet", 1, sums.answer(1));
        due("spin 1000", 1, sums.spin(1, 1000));
        due("spin: the greatest", 1001, sums.answer(1));
        due("spin 0", 1, sums.spin(1, 0));
        due("spin: none again", 1, sums.answer(1));
    }

    // Promises 7 to 10: what is asked

    /** "THE ANSWER of a task; -1 if there is none. -2 there is no such task." */
    private static void answerOfNoTask() {
        AnswerSums sums = of(t(1, 1, 1), t(1, 10, 0));
        due("answer: there is none", -1, sums.answer(2));
        for (int number : new int[] {Integer.MIN_VALUE, -1, 0, 3, 17, Integer.MAX_VALUE}) {
            due("answer of " + number, -2, sums.answer(number));
            due("longer of " + number, -2, sums.longer(number));
        }
    }

    /** "-1 there is no such task or row, or no ANSWER", whatever is asked of it */
    private static void reasonRows() {
        AnswerSums sums = of(t(1, 100, 2), t(1, 100, 1), t(1, 100, 2), t(1, 1, 0));
        due("rows: interrupt", 1, sums.interrupt(1, 100));
        for (int what : new int[] {-1, 0, 1, 2, 3}) {
            String asked = ", what " + what;
            due("rows: of 1, row 4" + asked, -1, sums.reason(1, 4, what));
            due("rows: of 2, row 5" + asked, -1, sums.reason(2, 5, what));
            due("rows: row -1" + asked, -1, sums.reason(1, -1, what));
            due("rows: the least" + asked, -1, sums.reason(1, Integer.MIN_VALUE, what));
            due("rows: the greatest" + asked, -1, sums.reason(1, Integer.MAX_VALUE, what));
            due("rows: no ANSWER" + asked, -1, sums.reason(4, 0, what));
            due("rows: no task 0" + asked, -1, sums.reason(0, 0, what));
            due("rows: no task 5" + asked, -1, sums.reason(5, 0, what));
        }
        due("rows: of 1, row 2", 3, sums.reason(1, 2, 2));
        due("rows: of 1, row 3", -1, sums.reason(1, 3, 2));
        due("rows: of 1, row 3, once", 1, sums.reason(1, 3, 0));
        due("rows: of 2, row 2", 1, sums.reason(2, 2, 2));
        due("rows: of 2, row 3", 3, sums.reason(2, 3, 2));
        due("rows: of 2, row 4, microseconds", 1, sums.reason(2, 4, 1));
    }

    /** "-2 no such what" */
    private static void reasonWhats() {
        AnswerSums sums = of(t(1, 100, 2), t(1, 100, 1));
        due("whats: interrupt", 1, sums.interrupt(1, 100));
        for (int what : new int[] {Integer.MIN_VALUE, -1, 3, Integer.MAX_VALUE}) {
            for (int row = 0; row < 4; row++) {
                due("row " + row + ", what " + what, -2, sums.reason(2, row, what));
            }
        }
    }

    /** "what = 0 how many activations, or 0 for rows 0 and 1, .. (0 for rows 0 and 1)" */
    private static void reasonOfRowsZeroAndOne() {
        AnswerSums sums = blocked(4, 100, 6);
        due("row 0, what 0", 0, sums.reason(1, 0, 0));
        due("row 0, what 1", 4, sums.reason(1, 0, 1));
        due("row 0, what 2", 0, sums.reason(1, 0, 2));
        due("row 1, what 0", 0, sums.reason(1, 1, 0));
        due("row 1, what 1", 6, sums.reason(1, 1, 1));
        due("row 1, what 2", 0, sums.reason(1, 1, 2));
    }

    /** "By how much .. longer at most (OWN time 1000 at most)" */
    private static void longerToThousand() {
        due("longer: from 1", 999, of(t(1, 20000, 1)).longer(1));
        due("longer: from 999", 1, of(t(999, 20000, 1)).longer(1));
        due("longer: from 1000", 0, of(t(1000, 20000, 1)).longer(1));
        due("longer: to its PERIOD of 1000", 1, of(t(999, 1000, 1)).longer(1));
        due("longer: to its PERIOD of 999", 0, of(t(999, 999, 1)).longer(1));
        for (int most = 1; most <= 40; most++) {
            due("longer: to its PERIOD of " + most, most - 1, of(t(1, most, 1)).longer(1));
        }
        AnswerSums sums = of(t(1, 20000, 1));
        due("longer: spin", 1, sums.spin(1, 1000));
        due("longer: OWN time alone", 999, sums.longer(1));
        due("longer: changes nothing", 1001, sums.answer(1));
    }

    /** "so that all tasks have an ANSWER" */
    private static void longerForAllTasks() {
        AnswerSums sums = of(t(1, 100, 1), t(2, 7, 0), t(1, 200, 2));
        // task 2: 2 and 1 and 1, of 7
        due("all: by a lower task's PERIOD", 3, sums.longer(1));
        due("all: by its own", 3, sums.longer(2));
        due("all: of the highest", 3, sums.longer(3));
    }

    /** "-1 if they have not as it is, -2 there is no such task" */
    private static void longerOfNone() {
        AnswerSums sums = of(t(2, 1, 0), t(1, 10, 9));
        due("as it is: only the first has none", -1, sums.answer(1));
        due("as it is: of the second", -1, sums.longer(2));
        due("as it is: of the first", -1, sums.longer(1));
        due("as it is: of none", -2, sums.longer(3));
        sums = of(t(1, 10, 9), t(1, 10, 9), t(20, 10, 0));
        due("as it is: only the last has none", -1, sums.answer(3));
        due("as it is: of the first, then", -1, sums.longer(1));
    }

    /** "for each 1000000 n COST / PERIOD (whole), together" */
    private static void busyIsWholeForEach() {
        AnswerSums sums = of(t(1, 3, 1), t(1, 3, 1), t(1, 3, 1));
        due("whole: three thirds", 999999, sums.busy(0));
        due("whole: interrupt", 1, sums.interrupt(2, 3));
        due("whole: and two thirds", 1666665, sums.busy(0));
        due("whole: n 2", 1, sums.burst(1, 2, 1));
        due("whole: n is within", 1999998, sums.busy(0));
        due("whole: spin", 1, sums.spin(2, 1));
        due("whole: SPIN is within", 2333331, sums.busy(0));
        sums = of(t(1000, 1, 1));
        due("whole: the greatest spin", 1, sums.spin(1, 1000));
        due("whole: the greatest n", 1, sums.burst(1, 20, 20000));
        for (int number = 2; number <= 16; number++) {
            due("whole: task", number, add(sums, 1000, 1, 1));
            due("whole: its spin", 1, sums.spin(number, 1000));
            due("whole: its n", 1, sums.burst(number, 20, 1));
        }
        // more than an int holds
        due("whole: the greatest", 640000000000L, sums.busy(0));
        due("whole: the least", 50, of(t(1, 20000, 1)).busy(0));
    }

    /** "1: how many tasks have an ANSWER; others: the greatest one, 0 if none has one" */
    private static void busyCountsAndGreatest() {
        AnswerSums sums = of(t(2, 1, 9));
        due("counts: none", 0, sums.busy(1));
        for (int side : new int[] {Integer.MIN_VALUE, -1, 2, 3, Integer.MAX_VALUE}) {
            due("greatest: none, side " + side, 0, sums.busy(side));
        }
        sums = of(t(3, 10, 3), t(2, 10, 2), t(9, 10, 1));
        due("counts: not the last", 2, sums.busy(1));
        for (int side : new int[] {Integer.MIN_VALUE, -1, 2, 3, Integer.MAX_VALUE}) {
            due("greatest: of two, side " + side, 5, sums.busy(side));
        }
        due("counts: interrupts are none", 1, sums.interrupt(1, 10));
        due("counts: with an interrupt", 2, sums.busy(1));
    }

    // Promise 11: when running all phases may show the ANSWER

    /** "there is one" */
    private static void plainWithoutAnswer() {
        AnswerSums sums = of(t(2, 4, 1), t(2, 4, 0));
        for (int number : new int[] {Integer.MIN_VALUE, -1, 0, 3, 4, Integer.MAX_VALUE}) {
            due("plain of " + number, false, sums.plain(number));
        }
        due("plain of 1", true, sums.plain(1));
        // 2 would wait for 1 and 3: 3 is above its PERIOD, though a phase is told
        sums = of(t(1, 3, 1), t(1, 2, 1), t(1, 6, 2));
        due("no ANSWER: of 2", -1, sums.answer(2));
        due("no ANSWER: phase", 1, sums.offset(1, 0));
        due("no ANSWER: not plain", false, sums.plain(2));
        due("no ANSWER: another is", true, sums.plain(3));
    }

    /** "there are at most 3 tasks" */
    private static void plainOfAtMostThree() {
        AnswerSums sums = of(t(1, 3, 4), t(1, 4, 3), t(1, 5, 2));
        due("three: plain", true, sums.plain(1));
        due("three: a fourth", 4, add(sums, 1, 1, 1));
        due("four: not plain", false, sums.plain(1));
    }

    /** "all without JITTER, with n 1 (INNER any), without sections and SPIN, and no interrupts" */
    private static void plainOfPlainTasksAlone() {
        for (int number = 1; number <= 2; number++) {
            AnswerSums sums = twoOfSix();
            due("JITTER", 1, sums.jitter(number, 1));
            due("with JITTER of " + number, false, sums.plain(1));
            due("no JITTER", 1, sums.jitter(number, 0));
            due("without JITTER of " + number, true, sums.plain(1));
            due("n 2", 1, sums.burst(number, 2, 6));
            due("with n 2 of " + number, false, sums.plain(1));
            due("n 1", 1, sums.burst(number, 1, 20000));
            due("with n 1 and the greatest INNER of " + number, true, sums.plain(1));
            due("SPIN", 1, sums.spin(number, 1));
            due("with SPIN of " + number, false, sums.plain(1));
            due("no SPIN", 1, sums.spin(number, 0));
            due("without SPIN of " + number, true, sums.plain(1));
            due("a section", 1, sums.section(number, 1, 1));
            due("with a section of " + number, false, sums.plain(1));
        }
        AnswerSums sums = twoOfSix();
        due("an interrupt", 1, sums.interrupt(1, 20000));
        due("with an interrupt", false, sums.plain(1));
    }

    /** A phase is told, so that a greater ANSWER alone would leave task 1 plain. */
    private static AnswerSums twoOfSix() {
        AnswerSums sums = of(t(1, 6, 2), t(1, 6, 1));
        due("two of six: a phase", 1, sums.offset(1, 0));
        due("two of six: plain", true, sums.plain(1));
        return sums;
    }

    /** "their PERIODS multiplied are at most 60" */
    private static void plainPeriodsAtMost60() {
        due("60", true, of(t(1, 60, 1)).plain(1));
        due("61", false, of(t(1, 61, 1)).plain(1));
        due("6 times 10", true, of(t(1, 6, 1), t(1, 10, 1)).plain(2));
        due("7 times 9", false, of(t(1, 7, 2), t(1, 9, 1)).plain(2));
        due("3 times 4 times 5", true, of(t(1, 3, 3), t(1, 4, 2), t(1, 5, 1)).plain(3));
        due("4 times 4 times 4", false, of(t(1, 4, 3), t(1, 4, 2), t(1, 4, 1)).plain(3));
        due("the greatest", false, of(t(1, 20000, 3), t(1, 20000, 2), t(1, 20000, 1)).plain(3));
    }

    /** "side 0 of busy() is at most 1000000" */
    private static void plainBusyAtMostAMillion() {
        due("a million", true, of(t(2, 4, 2), t(2, 4, 1)).plain(1));
        due("a million of one", true, of(t(1, 1, 1)).plain(1));
        due("above a million", false, of(t(2, 4, 2), t(3, 4, 1)).plain(1));
        AnswerSums sums = of(t(1, 60, 2), t(1, 1, 1));
        due("1016666", 1016666, sums.busy(0));
        due("a little above a million", false, sums.plain(1));
    }

    /** "for all phases (0 .. PERIOD - 1 ..)" */
    private static void plainForAllPhases() {
        AnswerSums sums = of(t(1, 2, 1), t(1, 4, 0), t(1, 4, 0));
        due("all phases: INNER", 1, sums.burst(1, 1, 3));
        // together with 3, task 2 goes before it: only behind a phase of 3's its time is 3
        due("all phases: ANSWER of 2", 3, sums.answer(2));
        due("all phases: of 2", true, sums.plain(2));
        // of one RANK the lower number waits for the whole other one at no phases
        sums = of(t(2, 3, 1), t(1, 3, 1));
        due("all phases: ANSWER of 1", 3, sums.answer(1));
        due("all phases: of the lower number", false, sums.plain(1));
        due("all phases: of the greater number", true, sums.plain(2));
    }

    /** "told ones as told" */
    private static void plainPhasesAsTold() {
        AnswerSums sums = of(t(1, 3, 2), t(3, 9, 1));
        due("as told: INNER", 1, sums.burst(1, 1, 20));
        due("as told: ANSWER", 4, sums.answer(2));
        due("as told: any", false, sums.plain(2));
        for (int phase = 0; phase < 3; phase++) {
            due("as told: phase", 1, sums.offset(1, phase));
            for (int other = 0; other < 9; other++) {
                due("as told: other phase", 1, sums.offset(2, other));
                // 1 takes two of the next microseconds only if it comes with 2: 5 is above 4
                due("as told: " + phase + " and " + other, phase != other % 3, sums.plain(2));
            }
        }
        due("as told: any again", 1, sums.offset(1, -1));
        due("as told: any of one", false, sums.plain(2));
    }

    /** "is the ANSWER, or, if a phase is told, at most that" */
    private static void plainAtMostTheAnswerIfTold() {
        AnswerSums sums = of(t(2, 4, 3), t(2, 4, 3));
        due("if told: 3 is not 4", false, sums.plain(1));
        due("if told: its phase", 1, sums.offset(1, 0));
        due("if told: 3 is at most 4", true, sums.plain(1));
        due("if told: no phase", 1, sums.offset(1, -1));
        due("if told: not told any more", false, sums.plain(1));
        due("if told: the other's phase", 1, sums.offset(2, 3));
        due("if told: 3 is at most 4, too", true, sums.plain(1));
        due("if told: both", 1, sums.offset(1, 3));
        due("if told: of both", true, sums.plain(1));
        due("if told: of both, the other", true, sums.plain(2));
    }

    /** "of these the one whose activation came first, then by number" */
    private static void plainFirstComeThenNumber() {
        // by number alone 3 would wait for more of 1, which INNER leaves out of its ANSWER
        AnswerSums sums = of(t(1, 2, 1), t(1, 3, 1), t(1, 6, 1));
        due("first come: INNER of 1", 1, sums.burst(1, 1, 3));
        due("first come: ANSWER of 3", 3, sums.answer(3));
        due("first come: it waits for each of the others once", true, sums.plain(3));
        sums = of(t(1, 3, 1), t(1, 3, 1));
        due("then by number: phase", 1, sums.offset(1, 2));
        due("then by number: the same", 1, sums.offset(2, 2));
        due("then by number: both wait", 2, sums.answer(1));
        // were the greater number first, the ANSWER of 2 would be shown behind no phase of 1
        sums = of(t(2, 4, 1), t(1, 4, 1));
        due("then by number: of 2", true, sums.plain(2));
        due("then by number: of 1", false, sums.plain(1));
    }

    /** "but of one RANK who ran goes on while it has to" */
    private static void plainWhoRanGoesOn() {
        // 2 runs from 1 to 3, behind 1, whose next activation comes at 2 and has to wait
        AnswerSums sums = of(t(1, 2, 1), t(2, 8, 1));
        due("goes on: INNER of 1", 1, sums.burst(1, 1, 8));
        due("goes on: ANSWER of 2", 3, sums.answer(2));
        due("goes on: 2 waits for one of 1", true, sums.plain(2));
        // at the end of its activation it has not to: the lower number is first again
        sums = of(t(2, 4, 3), t(2, 4, 3));
        due("goes on: not with the next activation", false, sums.plain(1));
        due("goes on: the greater number waits", true, sums.plain(2));
    }

    /** "of activations before the least common multiple of the PERIODS three times" */
    private static void plainOfThreeTimesTheMultiple() {
        AnswerSums sums = of(t(2, 3, 1), t(2, 6, 0));
        due("three times: INNER", 1, sums.burst(1, 1, 4));
        due("three times: ANSWER", 4, sums.answer(2));
        due("three times: high at 2", 1, sums.offset(1, 2));
        due("three times: low at 0", 1, sums.offset(2, 0));
        // at 0 low runs before high comes: 2; only at 6, after the multiple once, it is 5
        due("three times: not in the first alone", false, sums.plain(2));
        sums = of(t(4, 5, 1), t(2, 10, 0));
        due("three times: INNER of 4", 1, sums.burst(1, 1, 6));
        due("three times: high at 4", 1, sums.offset(1, 4));
        due("three times: low at 2", 1, sums.offset(2, 2));
        due("three times: ANSWER of 2", 6, sums.answer(2));
        due("three times: not before 12", false, sums.plain(2));
        sums = of(t(1, 2, 1), t(2, 29, 0));
        due("three times: INNER of 1", 1, sums.burst(1, 1, 3));
        due("three times: high at 1", 1, sums.offset(1, 1));
        due("three times: low at 28", 1, sums.offset(2, 28));
        due("three times: not before 57", false, sums.plain(2));
    }
}
