/** Calls with the answers that are due, promise by promise: ordinary ones, edges, wrong ones. */
public final class PromisesTest {
    private static final Checks checks = new Checks("PromisesTest");
    private static final int[] NO_TASKS = {Integer.MIN_VALUE, -1, 0, 4, 17, Integer.MAX_VALUE};
    private static final long LEAST = Long.MIN_VALUE;
    private static final long GREATEST = Long.MAX_VALUE;

    public static void main(String[] args) {
        newObject();
        task();
        taskOrderOfRefusals();
        jitter();
        burst();
        section();
        ceilings();
        offset();
        answer();
        answerLimits();
        reason();
        longer();
        busy();
        plain();
        plainConditions();
        plainConditionsWithPhase();
        plainOfOneRank();
        plainPhases();
        interrupt();
        spin();
        refusalsChangeNothing();
        dearestCalls();
        checks.end();
    }

    private static void due(String call, long want, long got) {
        checks.due(call, want, got);
    }

    private static long add(AnswerSums sums, long own, long period, int rank) {
        return Checks.task(sums, own, period, rank);
    }

    /** Tasks 1 (1 of 4, rank 3), 2 (2 of 6, rank 2) and 3 (3 of 12, rank 1). */
    private static AnswerSums three() {
        AnswerSums sums = new AnswerSums();
        due("first task", 1, add(sums, 1, 4, 3));
        due("second task", 2, add(sums, 2, 6, 2));
        due("third task", 3, add(sums, 3, 12, 1));
        return sums;
    }

    private static void answers(String when, AnswerSums sums, long... wanted) {
        for (int i = 0; i < wanted.length; i++) {
            due("answer(" + (i + 1) + ") " + when, wanted[i], sums.answer(i + 1));
        }
    }

    private static void plains(String when, AnswerSums sums, boolean... wanted) {
        for (int i = 0; i < wanted.length; i++) {
            checks.due("plain(" + (i + 1) + ") " + when, wanted[i], sums.plain(i + 1));
        }
    }

    private static void newObject() {
        AnswerSums sums = new AnswerSums();
        for (int number : NO_TASKS) {
            due("new: answer", -2, sums.answer(number));
            due("new: longer", -2, sums.longer(number));
            due("new: reason", -1, sums.reason(number, 0, 0));
            due("new: jitter", -1, sums.jitter(number, 1));
            checks.due("new: plain", false, sums.plain(number));
        }
        for (int side = -1; side < 4; side++) {
            due("new: busy(" + side + ")", 0, sums.busy(side));
        }
        due("new: first interrupt", 1, sums.interrupt(1, 1));
        due("new: first task", 1, add(sums, 1, 1, 0));
        due("another new: first task", 1, add(new AnswerSums(), 1, 1, 0));
    }

    private static void task() {
        AnswerSums sums = new AnswerSums();
        for (long own : new long[] {LEAST, -1, 0, 1001, GREATEST}) {
            due("task: own " + own, -2, add(sums, own, 10, 1));
        }
        for (long period : new long[] {LEAST, -1, 20001, GREATEST}) {
            due("task: period " + period, -2, add(sums, 1, period, 1));
        }
        for (int rank : new int[] {Integer.MIN_VALUE, -1, 256, Integer.MAX_VALUE}) {
            due("task: rank " + rank, -2, add(sums, 1, 10, rank));
        }
        due("task: period 0", Checks.THROWN, add(sums, 1, 0, 1));
        due("task: none was made", -2, sums.answer(1));
        due("task: least", 1, add(sums, 1, 1, 0));
        due("task: greatest", 2, add(sums, 1000, 20000, 255));
        answers("of the least and the greatest", sums, -1, 1000);
        for (int number = 3; number <= 16; number++) {
            due("task: one more", number, add(sums, 1, 20000, 100));
        }
        due("task: no room", -4, add(sums, 1, 20000, 100));
        due("task: the last is there", 1014, sums.answer(16));
        due("task: there is no more", -2, sums.answer(17));
    }

    private static void taskOrderOfRefusals() {
        AnswerSums sums = new AnswerSums();
        due("task: own 0 and period 0", -2, add(sums, 0, 0, 1));
        due("task: rank 256 and period 0", -2, add(sums, 1, 0, 256));
        for (int number = 1; number <= 16; number++) {
            due("task: again", number, add(sums, 1, 1000, 1));
        }
        due("task: no room and own 0", -2, add(sums, 0, 1000, 1));
        due("task: no room and period 20001", -2, add(sums, 1, 20001, 1));
        due("task: no room and period 0", -4, add(sums, 1, 0, 1));
    }

    private static void jitter() {
        AnswerSums sums = three();
        for (int number : NO_TASKS) {
            due("jitter: no task", -1, sums.jitter(number, 1));
            due("jitter: no task, no jitter", -1, sums.jitter(number, -1));
        }
        for (long micros : new long[] {LEAST, -1, 20001, GREATEST}) {
            due("jitter: " + micros, -2, sums.jitter(1, micros));
        }
        answers("without jitter", sums, 1, 3, 10);
        due("jitter: 1", 1, sums.jitter(1, 1));
        answers("with jitter 1", sums, 1, 3, 10);
        due("jitter: 2", 1, sums.jitter(1, 2));
        // of 1: (3 + 2) / 4 upwards is 2 in 3 microseconds; 3 in 10, with jitter or without
        answers("with jitter 2", sums, 1, 4, 10);
        due("jitter: 3", 1, sums.jitter(1, 3));
        // of 1: (10 + 3) / 4 upwards is 4: 11 for 3
        answers("with jitter 3", sums, 1, 4, 11);
        due("jitter: back to 0", 1, sums.jitter(1, 0));
        answers("without jitter again", sums, 1, 3, 10);
        due("jitter: greatest", 1, sums.jitter(1, 20000));
        // of 1: one each microsecond (INNER 1), which leaves nothing
        answers("with the greatest jitter", sums, 1, -1, -1);

        AnswerSums late = new AnswerSums();
        due("jitter: task", 1, add(late, 2, 20, 5));
        due("jitter: of its own", 1, late.jitter(1, 50));
        // LATER is 0, 0, 0, 10: the third activation ends at 6, before 10; INNER 1 makes it 2 late
        due("jitter: answer", 4, late.answer(1));
        due("jitter: its reason", 6, late.reason(1, 0, 1));
    }

    private static void burst() {
        AnswerSums sums = three();
        for (int number : NO_TASKS) {
            due("burst: no task", -1, sums.burst(number, 1, 1));
            due("burst: no task, no number", -1, sums.burst(number, 0, 0));
        }
        for (int n : new int[] {Integer.MIN_VALUE, -1, 0, 21, Integer.MAX_VALUE}) {
            due("burst: n " + n, -2, sums.burst(1, n, 1));
        }
        for (long inner : new long[] {LEAST, -1, 0, 20001, GREATEST}) {
            due("burst: inner " + inner, -2, sums.burst(1, 1, inner));
        }
        answers("without burst", sums, 1, 3, 10);
        due("burst: 2 of task 2", 1, sums.burst(2, 2, 1));
        // task 2: 2 + 1, the second 4 + 2 less INNER 1
        answers("with 2 at a time", sums, 1, 5, -1);
        due("burst: 2 of task 2, 3 apart", 1, sums.burst(2, 2, 3));
        answers("with 2 at a time, 3 apart", sums, 1, 3, -1);
        due("burst: inner alone", 1, sums.burst(2, 1, 20000));
        answers("with INNER 20000", sums, 1, 3, 7);
        due("burst: greatest", 1, sums.burst(2, 20, 20000));
        answers("with n 20 and INNER 20000", sums, 1, 3, 7);
        due("burst: busy by n alone", 250000 + 6666666 + 250000, sums.busy(0));
        due("burst: back", 1, sums.burst(2, 1, 1));
        answers("without burst again", sums, 1, 3, 10);
    }

    private static void section() {
        AnswerSums sums = three();
        for (int number : NO_TASKS) {
            due("section: no task", -1, sums.section(number, 1, 1));
            due("section: no task, no resource", -1, sums.section(number, 0, 0));
        }
        for (int resource : new int[] {Integer.MIN_VALUE, -1, 0, 33, Integer.MAX_VALUE}) {
            due("section: resource " + resource, -2, sums.section(3, resource, 1));
        }
        for (long length : new long[] {LEAST, -1, 0, 1001, GREATEST}) {
            due("section: length " + length, -2, sums.section(3, 1, length));
        }
        due("section: first", 1, sums.section(3, 32, 1));
        due("section: of another task", 1, sums.section(1, 1, 1000));
        for (int count = 2; count <= 10; count++) {
            due("section: one more", count, sums.section(3, 1, 1));
        }
        due("section: no room", -4, sums.section(3, 1, 1));
        due("section: no room, no resource", -2, sums.section(3, 33, 1));
        due("section: no room, no length", -2, sums.section(3, 1, 0));
        due("section: room elsewhere", 1, sums.section(2, 1, 1));
        answers("with sections of 1", sums, 2, 4, 10);
    }

    private static void ceilings() {
        AnswerSums sums = new AnswerSums();
        due("ceilings: low", 1, add(sums, 1, 1000, 1));
        due("ceilings: middle", 2, add(sums, 1, 1000, 2));
        due("ceilings: high", 3, add(sums, 1, 1000, 3));
        due("ceilings: low holds 1", 1, sums.section(1, 1, 50));
        answers("with the ceiling 1", sums, 3, 2, 1);
        due("ceilings: middle holds 1", 1, sums.section(2, 1, 7));
        answers("with the ceiling 2", sums, 3, 52, 1);
        due("ceilings: high holds 2", 1, sums.section(3, 2, 30));
        due("ceilings: low holds 2", 2, sums.section(1, 2, 20));
        answers("with the ceilings 2 and 3", sums, 3, 52, 21);
        due("ceilings: high holds 1", 2, sums.section(3, 1, 1));
        answers("with the ceilings 3 and 3", sums, 3, 52, 51);
        due("ceilings: one more of the lowest rank", 4, add(sums, 1, 1000, 1));
        due("ceilings: which holds 1", 1, sums.section(4, 1, 60));
        answers("with equals", sums, 4, 62, 61, 4);
        due("ceilings: blocking of the highest", 60, sums.reason(3, 1, 1));
        due("ceilings: none for equals", 0, sums.reason(1, 1, 1));
    }

    private static void offset() {
        AnswerSums sums = three();
        for (int number : NO_TASKS) {
            due("offset: no task", -1, sums.offset(number, 0));
            due("offset: no task, no phase", -1, sums.offset(number, -2));
        }
        for (long micros : new long[] {LEAST, -2, 12, 20000, GREATEST}) {
            due("offset: " + micros, -2, sums.offset(3, micros));
        }
        for (long micros : new long[] {-1, 0, 11}) {
            due("offset: " + micros, 1, sums.offset(3, micros));
        }
        answers("with a phase", sums, 1, 3, 10);
    }

    private static void answer() {
        AnswerSums sums = three();
        for (int number : NO_TASKS) {
            due("answer: no task", -2, sums.answer(number));
        }
        answers("of three", sums, 1, 3, 10);
        due("answer: one of the same rank", 4, add(sums, 1, 20, 3));
        // 1 and 4 delay each other; task 3: 3 + 3 + 4 + 1
        answers("with equals", sums, 2, 4, 11, 2);
        due("answer: one below", 5, add(sums, 1, 20000, 0));
        // 1 + 3 + 4 + 3 + 1
        due("answer: of the lowest", 12, sums.answer(5));

        AnswerSums full = new AnswerSums();
        due("answer: takes all", 1, add(full, 5, 5, 1));
        due("answer: with nothing left", 2, add(full, 1, 20000, 0));
        answers("of one that takes all", full, 5, -1);
        due("answer: more than the period", 3, add(full, 6, 5, 2));
        answers("of one that takes too much", full, -1, -1, -1);
    }

    /** Sets that end next to a span of 40000 and a q of 500; task 2 blocks for b. */
    private static void answerLimits() {
        answerOf("a span of 40000", 805, 267, 4100, 15, 274, 442, 96, 7007);
        answerOf("a span of 40000 again", 1592, 478, 6770, 12, 572, 480, 505, 3364);
        answerOf("a span of 40001", -1, 856, 1740, 2, 860, 403, 74, 16008);
        answerOf("a span of 40001 again", -1, 392, 7433, 17, 435, 313, 604, 6681);
        answerOf("a q of 499", 741, 58, 1224, 20, 60, 491, 175, 5278);
        answerOf("a q of 499 again", 585, 31, 643, 20, 32, 415, 139, 17104);
        answerOf("a q of 500", -1, 48, 998, 20, 50, 134, 434, 13762);
        answerOf("a q of 500 again", -1, 61, 894, 14, 64, 381, 374, 11220);
    }

    private static void answerOf(String what, long want, long... set) {
        AnswerSums sums = new AnswerSums();
        due(what + ": task", 1, add(sums, set[0], set[1], 2));
        due(what + ": burst", 1, sums.burst(1, (int) set[2], set[3]));
        due(what + ": lower task", 2, add(sums, 1, 20000, 1));
        due(what + ": section", 1, sums.section(2, 7, set[4]));
        due(what + ": ceiling", 1, sums.section(1, 7, 1));
        due(what + ": interrupt", 1, sums.interrupt(set[5], set[6]));
        due(what, want, sums.answer(1));
    }

    private static void reason() {
        AnswerSums sums = three();
        for (int number : NO_TASKS) {
            due("reason: no task", -1, sums.reason(number, 0, 0));
            due("reason: no task, no what", -1, sums.reason(number, 0, 3));
        }
        due("reason: interrupt 1", 1, sums.interrupt(1, 100));
        due("reason: interrupt 2", 2, sums.interrupt(1, 200));
        due("reason: section", 1, sums.section(3, 1, 1));
        due("reason: ceiling", 1, sums.section(1, 1, 1));
        answers("of three with interrupts", sums, 4, -1, 12);
        rows("reason(1)", sums, 1, new long[][] {{0, 1, 0}, {0, 1, 0}, {1, 1, -1}, {1, 1, -2}});
        rows("reason(3)", sums, 3, new long[][] {{0, 3, 0}, {0, 0, 0}, {3, 3, 1}, {2, 4, 2},
                {1, 1, -1}, {1, 1, -2}});
        due("reason: no answer", -1, sums.reason(2, 0, 1));
        due("reason: no answer, no what", -1, sums.reason(2, 0, 3));

        AnswerSums bursts = new AnswerSums();
        due("reason: task with bursts", 1, add(bursts, 2, 20, 5));
        due("reason: its burst", 1, bursts.burst(1, 3, 1));
        // 2, 4 - 1, 6 - 2: the third
        due("reason: answer of the third", 4, bursts.answer(1));
        rows("reason of the third", bursts, 1, new long[][] {{0, 6, 0}, {0, 0, 0}});
        due("reason: burst 2 apart", 1, bursts.burst(1, 3, 2));
        due("reason: answer of the first", 2, bursts.answer(1));
        rows("reason of the first", bursts, 1, new long[][] {{0, 2, 0}, {0, 0, 0}});

        AnswerSums equal = new AnswerSums();
        due("reason: asked", 1, add(equal, 2, 10, 1));
        due("reason: 2 at a time, 2 apart", 1, equal.burst(1, 2, 2));
        due("reason: blocked", 2, add(equal, 1, 100, 0));
        due("reason: blocking", 1, equal.section(2, 1, 3));
        due("reason: its ceiling", 1, equal.section(1, 1, 1));
        // 5 less 0 and 7 less 2 are the same: the first of them is the reason
        due("reason: answer of two", 5, equal.answer(1));
        rows("reason of two", equal, 1, new long[][] {{0, 2, 0}, {0, 3, 0}});
        // equals delay each other both ways, by number
        due("reason: above", 3, add(equal, 1, 100, 9));
        due("reason: equal", 4, add(equal, 1, 100, 1));
        rows("reason with equals", equal, 1, new long[][] {{0, 2, 0}, {0, 3, 0}, {1, 1, 3}, {1, 1, 4}});
        rows("reason of the equal", equal, 4, new long[][] {{0, 1, 0}, {0, 3, 0}, {2, 4, 1}, {1, 1, 3}});
    }

    private static void rows(String call, AnswerSums sums, int task, long[][] rows) {
        for (int i = 0; i < rows.length; i++) {
            for (int what = 0; what < 3; what++) {
                due(call + " row " + i + " what " + what, rows[i][what], sums.reason(task, i, what));
            }
            for (int what : new int[] {Integer.MIN_VALUE, -1, 3, Integer.MAX_VALUE}) {
                due(call + " row " + i + " what " + what, -2, sums.reason(task, i, what));
            }
        }
        for (int row : new int[] {Integer.MIN_VALUE, -1, rows.length, 30, Integer.MAX_VALUE}) {
            due(call + " row " + row, -1, sums.reason(task, row, 0));
            due(call + " row " + row + " without what", -1, sums.reason(task, row, 3));
        }
    }

    private static void longer() {
        AnswerSums sums = three();
        for (int number : NO_TASKS) {
            due("longer: no task", -2, sums.longer(number));
        }
        due("longer: 1", 0, sums.longer(1));
        due("longer: 2", 1, sums.longer(2));
        due("longer: 3", 2, sums.longer(3));
        answers("after longer", sums, 1, 3, 10);
        due("longer: 3 again", 2, sums.longer(3));
        due("longer: busy as before", 833333, sums.busy(0));
        due("longer: too much", 4, add(sums, 1000, 20000, 0));
        due("longer: answer of too much", -1, add(sums, 1, 1, 0) == 5 ? sums.answer(5) : 0);
        due("longer: not all as it is", -1, sums.longer(3));
        due("longer: not all as it is, another", -1, sums.longer(1));
        due("longer: no task then", -2, sums.longer(6));

        AnswerSums alone = new AnswerSums();
        due("longer: alone", 1, add(alone, 1, 20000, 0));
        due("longer: to 1000", 999, alone.longer(1));
        due("longer: spin", 1, alone.spin(1, 1000));
        due("longer: to 1000 with spin", 999, alone.longer(1));
        due("longer: 1000 as it is", 2, add(alone, 1000, 20000, 0));
        due("longer: 0 of 1000", 0, alone.longer(2));
        due("longer: short period", 3, add(alone, 7, 3100, 9));
        due("longer: own period, and what is below", 993, alone.longer(3));
        due("longer: shorter period", 4, add(alone, 7, 60, 9));
        due("longer: by its period", 46, alone.longer(4));

        // a period takes the growth: 60 for both of the highest rank
        AnswerSums pair = new AnswerSums();
        due("longer: first of a pair", 1, add(pair, 10, 60, 1));
        due("longer: second of a pair", 2, add(pair, 20, 60, 1));
        due("longer: first", 30, pair.longer(1));
        due("longer: second", 30, pair.longer(2));
    }

    private static void busy() {
        AnswerSums sums = three();
        due("busy: load", 833333, sums.busy(0));
        due("busy: have an answer", 3, sums.busy(1));
        for (int side : new int[] {Integer.MIN_VALUE, -1, 2, 3, Integer.MAX_VALUE}) {
            due("busy(" + side + ")", 10, sums.busy(side));
        }
        due("busy: interrupt", 1, sums.interrupt(1, 3));
        due("busy: whole each", 250000 + 333333 + 250000 + 333333, sums.busy(0));
        due("busy: spin", 1, sums.spin(3, 2));
        due("busy: n", 1, sums.burst(1, 20, 20000));
        due("busy: with spin and n", 5000000 + 333333 + 416666 + 333333, sums.busy(0));
        due("busy: jitter", 1, sums.jitter(1, 20000));
        due("busy: not by jitter", 5000000 + 333333 + 416666 + 333333, sums.busy(0));

        AnswerSums none = new AnswerSums();
        due("busy: too much", 1, add(none, 1000, 1, 1));
        due("busy: greatest load", 1000000000, none.busy(0));
        due("busy: none has an answer", 0, none.busy(1));
        due("busy: no greatest", 0, none.busy(2));
        due("busy: one below", 2, add(none, 3, 10, 2));
        due("busy: one has an answer", 1, none.busy(1));
        due("busy: the greatest of one", 3, none.busy(2));
    }

    /** Tasks 1 (1 of 2, rank 3) and 2 (1 of 5, rank 2): of 10 the periods, 60 with 1 of 6. */
    private static AnswerSums small() {
        AnswerSums sums = new AnswerSums();
        due("small: task 1", 1, add(sums, 1, 2, 3));
        due("small: task 2", 2, add(sums, 1, 5, 2));
        return sums;
    }

    private static void plain() {
        AnswerSums sums = small();
        for (int number : NO_TASKS) {
            checks.due("plain: no task", false, sums.plain(number));
        }
        plains("of two", sums, true, true);
        due("plain: task 3", 3, add(sums, 1, 6, 1));
        answers("of three to run", sums, 1, 2, 4);
        plains("of three", sums, true, true, true);
        due("plain: task 4", 4, add(sums, 1, 1, 0));
        plains("of four", sums, false, false, false, false);

        AnswerSums late = new AnswerSums();
        due("plain: takes its all", 1, add(late, 2, 2, 1));
        due("plain: no time", 2, add(late, 1, 30, 0));
        plains("of too much", late, false, false);
        AnswerSums over = new AnswerSums();
        due("plain: more than its period", 1, add(over, 2, 3, 1));
        due("plain: all time together", 2, add(over, 1, 3, 0));
        answers("of all time", over, 2, 3);
        plains("of all time", over, true, true);
        due("plain: has no answer", 3, add(over, 1, 6, 0));
        plains("above all time", over, false, false, false);
    }

    private static void plainConditions() {
        AnswerSums sums = new AnswerSums();
        due("conditions: 61", 1, add(sums, 1, 61, 1));
        plains("of period 61", sums, false);
        sums = new AnswerSums();
        due("conditions: 60", 1, add(sums, 1, 60, 1));
        plains("of period 60", sums, true);
        due("conditions: jitter", 1, sums.jitter(1, 1));
        plains("with jitter", sums, false);
        due("conditions: no jitter", 1, sums.jitter(1, 0));
        plains("without jitter", sums, true);
        due("conditions: burst", 1, sums.burst(1, 2, 60));
        plains("with n 2", sums, false);
        due("conditions: inner", 1, sums.burst(1, 1, 60));
        plains("with n 1 and INNER 60", sums, true);
        due("conditions: spin", 1, sums.spin(1, 1));
        plains("with spin", sums, false);
        due("conditions: no spin", 1, sums.spin(1, 0));
        plains("without spin", sums, true);
        due("conditions: another", 2, add(sums, 1, 1, 0));
        plains("above 1000000", sums, false, false);

        sums = small();
        due("conditions: section", 1, sums.section(2, 1, 1));
        plains("with a section", sums, false, false);
        sums = small();
        due("conditions: interrupt", 1, sums.interrupt(1, 20000));
        plains("with an interrupt", sums, false, false);
        sums = small();
        due("conditions: jitter of the other", 1, sums.jitter(2, 1));
        plains("with jitter of the other", sums, false, false);
        sums = small();
        due("conditions: third of period 7", 3, add(sums, 1, 7, 0));
        plains("with periods of 70", sums, false, false, false);

        // INNER above the PERIOD makes the sums see less than the run shows
        sums = new AnswerSums();
        due("conditions: high", 1, add(sums, 1, 2, 2));
        due("conditions: low", 2, add(sums, 2, 8, 1));
        answers("before INNER", sums, 1, 4);
        plains("before INNER", sums, true, true);
        due("conditions: INNER above the period", 1, sums.burst(1, 1, 100));
        answers("with INNER", sums, 1, 3);
        plains("with INNER", sums, true, false);
        due("conditions: told", 1, sums.offset(2, 0));
        plains("with INNER and a phase", sums, true, false);
    }

    /** With a phase told, the ANSWERS that these make greater would be above what is shown. */
    private static void plainConditionsWithPhase() {
        AnswerSums sums = smallWithPhase();
        due("conditions: interrupt", 1, sums.interrupt(1, 20000));
        plains("with a phase and an interrupt", sums, false, false);
        sums = smallWithPhase();
        due("conditions: spin", 1, sums.spin(1, 1));
        plains("with a phase and spin", sums, false, false);
        due("conditions: no spin", 1, sums.spin(1, 0));
        plains("with a phase, without spin", sums, true, true);
        sums = smallWithPhase();
        due("conditions: jitter", 1, sums.jitter(1, 1));
        plains("with a phase and jitter", sums, false, false);
        sums = smallWithPhase();
        due("conditions: burst", 1, sums.burst(2, 2, 5));
        plains("with a phase and n 2", sums, false, false);
        sums = smallWithPhase();
        due("conditions: section", 1, sums.section(2, 1, 1));
        plains("with a phase and a section", sums, false, false);
    }

    private static AnswerSums smallWithPhase() {
        AnswerSums sums = small();
        due("conditions: phase", 1, sums.offset(2, 1));
        plains("with a phase", sums, true, true);
        return sums;
    }

    /** Whose activation came first goes first; then by number; who ran goes on while it has to. */
    private static void plainOfOneRank() {
        AnswerSums sums = new AnswerSums();
        due("equals: 1", 1, add(sums, 1, 4, 1));
        due("equals: 2", 2, add(sums, 2, 5, 1));
        answers("of equals", sums, 3, 3);
        // number 1 runs first of those that come together; 2 waits for 1 at most once
        plains("of equals", sums, false, true);
        due("equals: 2 at 0", 1, sums.offset(2, 0));
        plains("of equals, a phase told", sums, true, true);

        // by number alone 3 would wait for three of 1, as in the sums; but it came before the third
        AnswerSums first = new AnswerSums();
        due("first: 1", 1, add(first, 1, 2, 1));
        due("first: 2", 2, add(first, 1, 3, 2));
        due("first: 3", 3, add(first, 1, 6, 1));
        answers("of first come", first, -1, 1, 6);
        plains("of first come", first, false, true, false);
        due("first: 1 at 0", 1, first.offset(1, 0));
        plains("of first come with a phase", first, false, true, true);

        // all time is taken: who has ended does not go on, as its next activation has not begun
        AnswerSums full = new AnswerSums();
        due("full: 1", 1, add(full, 1, 2, 1));
        due("full: 2", 2, add(full, 1, 2, 1));
        answers("of equals with all time", full, 2, 2);
        plains("of equals with all time", full, false, true);
        AnswerSums longer = new AnswerSums();
        due("full: 2 of 4", 1, add(longer, 2, 4, 3));
        due("full: 2 of 4 again", 2, add(longer, 2, 4, 3));
        answers("of equals of 2", longer, 4, 4);
        plains("of equals of 2", longer, false, true);
        due("full: 2 at 0", 1, longer.offset(2, 0));
        plains("of equals of 2, a phase told", longer, true, true);
    }

    private static void plainPhases() {
        AnswerSums sums = small();
        due("phases: 1 at 1", 1, sums.offset(1, 1));
        // at most the answers, whatever the phases
        plains("with a phase of 1", sums, true, true);
        due("phases: 2 at 4", 1, sums.offset(2, 4));
        plains("with two phases", sums, true, true);

        AnswerSums apart = new AnswerSums();
        due("phases: high", 1, add(apart, 1, 4, 2));
        due("phases: low", 2, add(apart, 1, 4, 1));
        due("phases: INNER of high", 1, apart.burst(1, 1, 9));
        plains("of 4 and 4", apart, true, true);
        // all at 0: often runs at 0 and 3, seldom ends at 5; the sums (INNER 20) see often but once
        AnswerSums met = new AnswerSums();
        due("phases: often", 1, add(met, 1, 3, 2));
        due("phases: seldom", 2, add(met, 3, 9, 1));
        due("phases: INNER of often", 1, met.burst(1, 1, 20));
        answers("of often and seldom", met, 1, 4);
        plains("of often and seldom", met, true, false);
        due("phases: often at 1", 1, met.offset(1, 1));
        plains("with often at 1, seldom any", met, true, false);
        due("phases: seldom at 0", 1, met.offset(2, 0));
        // 0, 2 and 3 are free for it, behind one of often: it ends at 4
        plains("with often at 1, seldom at 0", met, true, true);
        due("phases: often at 2", 1, met.offset(1, 2));
        // 0, 1 and 3 are free for it
        plains("with often at 2, seldom at 0", met, true, true);
        due("phases: often at any", 1, met.offset(1, -1));
        plains("with seldom at 0", met, true, false);
    }

    private static void interrupt() {
        AnswerSums sums = three();
        for (long own : new long[] {LEAST, -1, 0, 1001, GREATEST}) {
            due("interrupt: own " + own, -2, sums.interrupt(own, 10));
        }
        for (long period : new long[] {LEAST, -1, 0, 20001, GREATEST}) {
            due("interrupt: period " + period, -2, sums.interrupt(1, period));
        }
        answers("without interrupts", sums, 1, 3, 10);
        due("interrupt: first", 1, sums.interrupt(1, 20000));
        answers("with an interrupt", sums, 2, 4, 11);
        due("interrupt: greatest", 2, sums.interrupt(1000, 20000));
        answers("with the greatest interrupt", sums, -1, -1, -1);
        for (int number = 3; number <= 8; number++) {
            due("interrupt: one more", number, sums.interrupt(1, 1));
        }
        due("interrupt: no room", -4, sums.interrupt(1, 1));
        due("interrupt: no room, own 0", -2, sums.interrupt(0, 1));
        due("interrupt: no room, period 0", -2, sums.interrupt(1, 0));

        AnswerSums above = new AnswerSums();
        due("interrupt: of the highest rank", 1, add(above, 5, 100, 255));
        due("interrupt: often", 1, above.interrupt(3, 4));
        due("interrupt: answer", 20, above.answer(1));
        due("interrupt: how many", 5, above.reason(1, 2, 0));
    }

    private static void spin() {
        AnswerSums sums = three();
        for (int number : NO_TASKS) {
            due("spin: no task", -1, sums.spin(number, 1));
            due("spin: no task, no length", -1, sums.spin(number, -1));
        }
        for (long length : new long[] {LEAST, -1, 1001, GREATEST}) {
            due("spin: " + length, -2, sums.spin(1, length));
        }
        due("spin: 1", 1, sums.spin(1, 1));
        answers("with spin 1", sums, 2, 4, -1);
        due("spin: own cost", 2, sums.reason(1, 0, 1));
        due("spin: cost above", 2, sums.reason(2, 2, 1));
        due("spin: 0", 1, sums.spin(1, 0));
        answers("without spin", sums, 1, 3, 10);
        due("spin: greatest", 1, sums.spin(3, 1000));
        answers("with the greatest spin", sums, 1, 3, -1);
    }

    private static void refusalsChangeNothing() {
        AnswerSums sums = small();
        due("refused: jitter", -2, sums.jitter(1, -1));
        due("refused: burst by n", -2, sums.burst(1, 0, 5));
        due("refused: burst by inner", -2, sums.burst(1, 5, 0));
        due("refused: section by resource", -2, sums.section(2, 33, 5));
        due("refused: section by length", -2, sums.section(2, 1, 1001));
        due("refused: offset", -2, sums.offset(1, 2));
        due("refused: interrupt", -2, sums.interrupt(1, 20001));
        due("refused: spin", -2, sums.spin(1, 1001));
        due("refused: task", Checks.THROWN, add(sums, 1, 0, 1));
        due("refused: other task", -2, add(sums, 1001, 1, 1));
        answers("after refusals", sums, 1, 2, -2);
        due("busy(0) after refusals", 700000, sums.busy(0));
        plains("after refusals", sums, true, true, false);
        due("section after refusals", 1, sums.section(2, 1, 1));
        due("interrupt after refusals", 1, sums.interrupt(1, 1));
        due("task after refusals", 3, add(sums, 1, 1, 1));
    }

    /** All the room there is, and sums that hardly end: 512 calls must not take long. */
    private static void dearestCalls() {
        AnswerSums sums = new AnswerSums();
        for (int number = 1; number <= 16; number++) {
            due("dear: task", number, add(sums, 1, 20000, number));
            due("dear: burst", 1, sums.burst(number, 20, 1 + number));
        }
        for (int number = 1; number <= 8; number++) {
            due("dear: interrupt", number, sums.interrupt(number == 8 ? 2 : 1, 9 + number % 2));
        }
        for (int call = 0; call < 236; call++) {
            due("dear: jitter", 1, sums.jitter(1 + call % 16, 0));
            long longer = sums.longer(1 + call % 16);
            checks.due("dear: longer is told", true, longer >= -1 && longer < 1000);
        }
    }
}
