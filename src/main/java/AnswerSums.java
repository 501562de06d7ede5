import java.util.ArrayList;

/**
 * Worst answer times of tasks on one core: the face of the document, with its refusals. The sums
 * stand in Core, the running of all phases in Phases.
 */
public final class AnswerSums {
    private static final int UNKNOWN = -1;
    private static final int OUTSIDE = -2;
    private static final int NO_ROOM = -4;
    private static final int SET = 1;
    private static final int NONE = -1;

    private static final int MOST_TASKS = 16;
    private static final int MOST_INTERRUPTS = 8;
    private static final int MOST_SECTIONS = 10;
    private static final int MOST_RESOURCE = 32;
    private static final int MOST_RANK = 255;
    private static final int MOST_AT_A_TIME = 20;
    private static final long MOST_LENGTH = 1000;
    private static final long MOST_PERIOD = 20000;
    private static final long MOST_SPAN = 40000;
    private static final int MOST_TURNS = 500;
    private static final long MILLION = 1000000;

    private static final int MOST_RUN_TASKS = 3;
    private static final long MOST_RUN_PHASES = 60;

    private static final int OWN_ROW = 0;
    private static final int FIRST_PART_ROW = 2;
    private static final int HOW_MANY = 0;
    private static final int MICROSECONDS = 1;
    private static final int WHICH = 2;

    private final Core core;
    private final Phases phases;
    private final Finding trial;

    public AnswerSums() {
        core = new Core();
        phases = new Phases();
        trial = new Finding();
    }

    public int task(long own, long period, int rank) throws ArithmeticException {
        if (!isLength(own) || rank < 0 || rank > MOST_RANK) {
            return OUTSIDE;
        }
        if (period < 0 || period > MOST_PERIOD) {
            return OUTSIDE;
        }
        int number = core.tasks.size() + 1;
        if (number > MOST_TASKS) {
            return NO_ROOM;
        }
        if (period == 0) {
            throw new ArithmeticException("a task's period is 0");
        }
        core.tasks.add(new Task(number, own, period, rank));
        forgetFindings();
        return number;
    }

    public int jitter(int task, long micros) {
        Task told = core.taskOf(task);
        if (told == null) {
            return UNKNOWN;
        }
        if (micros < 0 || micros > MOST_PERIOD) {
            return OUTSIDE;
        }
        told.jitter = micros;
        forgetFindings();
        return SET;
    }

    public int burst(int task, int n, long inner) {
        Task told = core.taskOf(task);
        if (told == null) {
            return UNKNOWN;
        }
        if (n < 1 || n > MOST_AT_A_TIME || !isPeriod(inner)) {
            return OUTSIDE;
        }
        told.atATime = n;
        told.inner = inner;
        forgetFindings();
        return SET;
    }

    public int section(int task, int resource, long length) {
        Task told = core.taskOf(task);
        if (told == null) {
            return UNKNOWN;
        }
        if (resource < 1 || resource > MOST_RESOURCE || !isLength(length)) {
            return OUTSIDE;
        }
        if (told.sections >= MOST_SECTIONS) {
            return NO_ROOM;
        }
        told.addSection(resource, length);
        core.raiseCeiling(resource, told.rank);
        forgetFindings();
        return told.sections;
    }

    public int offset(int task, long micros) {
        Task told = core.taskOf(task);
        if (told == null) {
            return UNKNOWN;
        }
        if (micros < Task.ANY_PHASE || micros >= told.period) {
            return OUTSIDE;
        }
        told.phase = micros;
        forgetFindings();
        return SET;
    }

    public long answer(int task) {
        Task asked = core.taskOf(task);
        return asked == null ? OUTSIDE : findingOf(asked).answer;
    }

    public int reason(int task, int i, int what) {
        Task asked = core.taskOf(task);
        if (asked == null || i < 0) {
            return UNKNOWN;
        }
        Finding found = findingOf(asked);
        if (found.answer == NONE) {
            return UNKNOWN;
        }
        Part part = core.partAbove(asked, i - FIRST_PART_ROW);
        if (i >= FIRST_PART_ROW && part == null) {
            return UNKNOWN;
        }
        if (what < HOW_MANY || what > WHICH) {
            return OUTSIDE;
        }
        return (int) (part == null ? rowOfItself(asked, i, what) : rowOfPart(part, found.span, what));
    }

    public long longer(int task) {
        Task asked = core.taskOf(task);
        if (asked == null) {
            return OUTSIDE;
        }
        if (!allHaveAnswers()) {
            return NONE;
        }
        long own = asked.own;
        long good = own;
        long most = MOST_LENGTH;
        // no ANSWER comes back when an OWN time grows, so the range may be halved
        for (int step = 0; step < MOST_LENGTH && good < most; step++) {
            long middle = (good + most + 1) / 2;
            asked.own = middle;
            if (allHaveAnswers()) {
                good = middle;
            } else {
                most = middle - 1;
            }
        }
        asked.own = own;
        return good - own;
    }

    public long busy(int side) {
        if (side == 0) {
            return core.wholeLoad();
        }
        long count = 0;
        long greatest = 0;
        for (int i = 0; i < core.tasks.size(); i++) {
            long answer = findingOf(core.tasks.get(i)).answer;
            if (answer != NONE) {
                count++;
                greatest = Math.max(greatest, answer);
            }
        }
        return side == 1 ? count : greatest;
    }

    public boolean plain(int task) {
        Task asked = core.taskOf(task);
        if (asked == null || !core.mayBeRun()) {
            return false;
        }
        long answer = findingOf(asked).answer;
        if (answer == NONE) {
            return false;
        }
        if (!phases.known) {
            phases.runAll(core.tasks);
        }
        long longest = phases.longestOf(task - 1);
        return core.tellsAnyPhase() ? longest <= answer : longest == answer;
    }

    public int interrupt(long own, long period) {
        if (!isLength(own) || !isPeriod(period)) {
            return OUTSIDE;
        }
        int number = core.interrupts.size() + 1;
        if (number > MOST_INTERRUPTS) {
            return NO_ROOM;
        }
        core.interrupts.add(new Part(-number, own, period));
        forgetFindings();
        return number;
    }

    public int spin(int task, long length) {
        Task told = core.taskOf(task);
        if (told == null) {
            return UNKNOWN;
        }
        if (length < 0 || length > MOST_LENGTH) {
            return OUTSIDE;
        }
        told.spin = length;
        forgetFindings();
        return SET;
    }

    private static boolean isLength(long micros) {
        return micros >= 1 && micros <= MOST_LENGTH;
    }

    private static boolean isPeriod(long micros) {
        return micros >= 1 && micros <= MOST_PERIOD;
    }

    /** How often the second number goes into the first, upwards. */
    private static long upwards(long amount, long by) {
        return by < 1 ? 0 : (amount + by - 1) / by;
    }

    /** How often the second number goes into the first, whole. */
    private static long whole(long amount, long by) {
        return by < 1 ? 0 : amount / by;
    }

    private void forgetFindings() {
        for (int i = 0; i < core.tasks.size(); i++) {
            core.tasks.get(i).finding.known = false;
        }
        phases.known = false;
    }

    private Finding findingOf(Task task) {
        if (!task.finding.known) {
            core.find(task, task.finding);
        }
        return task.finding;
    }

    private long rowOfItself(Task task, int row, int what) {
        if (what != MICROSECONDS) {
            return 0;
        }
        return row == OWN_ROW ? (task.finding.turn + 1) * task.cost() : core.blockingOf(task);
    }

    private long rowOfPart(Part part, long span, int what) {
        if (what == WHICH) {
            return part.sign;
        }
        long howMany = part.activationsIn(span);
        return what == HOW_MANY ? howMany : howMany * part.cost();
    }

    private boolean allHaveAnswers() {
        for (int i = 0; i < core.tasks.size(); i++) {
            core.find(core.tasks.get(i), trial);
            if (trial.answer == NONE) {
                return false;
            }
        }
        return true;
    }

    /** What was found for a task: THE ANSWER (or NONE), its REASON, and THE SPAN of that. */
    private static final class Finding {
        boolean known;
        long answer = NONE;
        int turn;
        long span;

        void start() {
            known = true;
            answer = NONE;
        }

        void tell(long newAnswer, int newTurn, long newSpan) {
            answer = newAnswer;
            turn = newTurn;
            span = newSpan;
        }
    }

    /** What takes time on the core: as it is an interrupt, a task with more in Task. */
    private static class Part {
        final int sign;
        final long period;
        long own;
        long spin;
        long jitter;
        long inner = 1;
        int atATime = 1;

        Part(int sign, long own, long period) {
            this.sign = sign;
            this.own = own;
            this.period = period;
        }

        final long cost() {
            return own + spin;
        }

        final long activationsIn(long span) {
            return Math.min(upwards(span, inner), atATime * upwards(span + jitter, period));
        }

        /** LATER: the least time from the first activation of a span to a later one. */
        final long laterOf(int turn) {
            long byPeriods = whole(turn, atATime) * period - jitter;
            return Math.max(Math.max(turn * inner, byPeriods), 0);
        }

        /** Millionths of time that it takes. */
        final long load() {
            return whole(MILLION * atATime * cost(), period);
        }

        /** Millionths of any span that it takes at least. */
        final long leastShare() {
            return Math.min(whole(MILLION * cost(), inner), load());
        }
    }

    private static final class Task extends Part {
        static final long ANY_PHASE = -1;

        final int rank;
        final int[] resources = new int[MOST_SECTIONS];
        final long[] lengths = new long[MOST_SECTIONS];
        final Finding finding = new Finding();
        int sections;
        long phase = ANY_PHASE;

        Task(int sign, long own, long period, int rank) {
            super(sign, own, period);
            this.rank = rank;
        }

        void addSection(int resource, long length) {
            if (sections < MOST_SECTIONS) {
                resources[sections] = resource;
                lengths[sections] = length;
                sections++;
            }
        }

        boolean isAbove(Task other) {
            return this != other && rank >= other.rank;
        }

        boolean isPlain() {
            return jitter == 0 && atATime == 1 && sections == 0 && spin == 0;
        }

        boolean tellsPhase() {
            return phase != ANY_PHASE;
        }
    }

    /** All who share the core, and their sums. */
    private static final class Core {
        final ArrayList<Task> tasks = new ArrayList<Task>();
        final ArrayList<Part> interrupts = new ArrayList<Part>();
        /** CEILINGS by resource, -1 where no task has a section of it. */
        final int[] ceilings = new int[MOST_RESOURCE + 1];

        Core() {
            for (int i = 0; i < ceilings.length; i++) {
                ceilings[i] = -1;
            }
        }

        Task taskOf(int number) {
            return number < 1 || number > tasks.size() ? null : tasks.get(number - 1);
        }

        void raiseCeiling(int resource, int rank) {
            if (resource >= 0 && resource < ceilings.length) {
                ceilings[resource] = Math.max(ceilings[resource], rank);
            }
        }

        private int ceilingOf(int resource) {
            return resource >= 0 && resource < ceilings.length ? ceilings[resource] : -1;
        }

        long blockingOf(Task task) {
            long greatest = 0;
            for (int i = 0; i < tasks.size(); i++) {
                Task other = tasks.get(i);
                if (other.rank < task.rank) {
                    greatest = Math.max(greatest, longestSection(other, task.rank));
                }
            }
            return greatest;
        }

        /** The longest section of a task whose resource's CEILING is not below a rank. */
        private long longestSection(Task holder, int rank) {
            long greatest = 0;
            for (int i = 0; i < holder.sections && i < MOST_SECTIONS; i++) {
                if (ceilingOf(holder.resources[i]) >= rank) {
                    greatest = Math.max(greatest, holder.lengths[i]);
                }
            }
            return greatest;
        }

        /** Of the other tasks of a RANK not lower, then the interrupts, the one at a place; or null. */
        Part partAbove(Task task, int place) {
            if (place < 0) {
                return null;
            }
            int before = place;
            for (int i = 0; i < tasks.size(); i++) {
                Task other = tasks.get(i);
                if (other.isAbove(task)) {
                    if (before == 0) {
                        return other;
                    }
                    before--;
                }
            }
            return before < interrupts.size() ? interrupts.get(before) : null;
        }

        private long takenAbove(Task task, long span) {
            long taken = 0;
            for (int i = 0; i < tasks.size(); i++) {
                Task other = tasks.get(i);
                if (other.isAbove(task)) {
                    taken += other.activationsIn(span) * other.cost();
                }
            }
            for (int i = 0; i < interrupts.size(); i++) {
                Part interrupt = interrupts.get(i);
                taken += interrupt.activationsIn(span) * interrupt.cost();
            }
            return taken;
        }

        private long leastShareAbove(Task task) {
            long share = 0;
            for (int i = 0; i < tasks.size(); i++) {
                Task other = tasks.get(i);
                if (other.isAbove(task)) {
                    share += other.leastShare();
                }
            }
            for (int i = 0; i < interrupts.size(); i++) {
                share += interrupts.get(i).leastShare();
            }
            return share;
        }

        /**
         * Writes THE ANSWER of a task, and its REASON. A span has room for what is above it only if
         * the millionths left over suffice for the rest; that gives each search a start from below
         * that is near, and shows at once where no span ends.
         */
        void find(Task task, Finding found) {
            found.start();
            long left = MILLION - leastShareAbove(task);
            if (left < 1) {
                return;
            }
            long blocking = blockingOf(task);
            long greatest = 0;
            int reason = 0;
            long reasonSpan = 0;
            long span = 0;
            for (int turn = 0; turn < MOST_TURNS; turn++) {
                long fixed = (turn + 1) * task.cost() + blocking;
                long later = task.laterOf(turn);
                long least = Math.max(span + task.cost(), upwards(fixed * MILLION, left));
                // a span above this one leaves the task without an ANSWER
                long most = Math.min(MOST_SPAN, later + task.period);
                span = spanFrom(task, fixed, least, most);
                if (span == NONE) {
                    return;
                }
                if (span - later > greatest) {
                    greatest = span - later;
                    reason = turn;
                    reasonSpan = span;
                }
                if (span <= task.laterOf(turn + 1)) {
                    found.tell(greatest, reason, reasonSpan);
                    return;
                }
            }
        }

        /**
         * The least span in which what is fixed and what is above have their time, sought upwards
         * from one that is not greater; NONE if it is above the most.
         */
        private long spanFrom(Task task, long fixed, long least, long most) {
            long span = least;
            for (long step = 0; step <= MOST_SPAN && span <= most; step++) {
                long needed = fixed + takenAbove(task, span);
                if (needed == span) {
                    return span;
                }
                span = needed;
            }
            return NONE;
        }

        /** Millionths of time that all take together. */
        long wholeLoad() {
            long sum = 0;
            for (int i = 0; i < tasks.size(); i++) {
                sum += tasks.get(i).load();
            }
            for (int i = 0; i < interrupts.size(); i++) {
                sum += interrupts.get(i).load();
            }
            return sum;
        }

        /** Whether the tasks are few and simple enough to run all their phases. */
        boolean mayBeRun() {
            if (tasks.size() > MOST_RUN_TASKS || !interrupts.isEmpty() || wholeLoad() > MILLION) {
                return false;
            }
            long together = 1;
            for (int i = 0; i < tasks.size(); i++) {
                Task task = tasks.get(i);
                together *= task.period;
                if (!task.isPlain()) {
                    return false;
                }
            }
            return together <= MOST_RUN_PHASES;
        }

        boolean tellsAnyPhase() {
            for (int i = 0; i < tasks.size(); i++) {
                if (tasks.get(i).tellsPhase()) {
                    return true;
                }
            }
            return false;
        }
    }

    /** Runs at most three tasks in all their phases, one microsecond at a time. */
    private static final class Phases {
        /** Far above the time in which a run ends that leaves the core no more than busy. */
        static final int MOST_TIME = 1000000;
        static final int ROUNDS = 3;

        boolean known;
        private int count;
        private int end;
        private final long[] longest = new long[MOST_RUN_TASKS];
        private final int[] rank = new int[MOST_RUN_TASKS];
        private final long[] own = new long[MOST_RUN_TASKS];
        private final long[] period = new long[MOST_RUN_TASKS];
        private final long[] told = new long[MOST_RUN_TASKS];
        /** When the oldest activation came (or will come) that has not ended. */
        private final long[] oldest = new long[MOST_RUN_TASKS];
        private final long[] left = new long[MOST_RUN_TASKS];

        long longestOf(int place) {
            return place >= 0 && place < count ? longest[place] : NONE;
        }

        void runAll(ArrayList<Task> tasks) {
            take(tasks);
            long ways = 1;
            for (int i = 0; i < count; i++) {
                longest[i] = 0;
                if (told[i] == Task.ANY_PHASE) {
                    ways *= period[i];
                }
            }
            for (long way = 0; way < ways && way < MOST_RUN_PHASES; way++) {
                start(way);
                run();
            }
            known = true;
        }

        private void take(ArrayList<Task> tasks) {
            count = Math.min(tasks.size(), MOST_RUN_TASKS);
            long common = 1;
            for (int i = 0; i < count; i++) {
                Task task = tasks.get(i);
                rank[i] = task.rank;
                own[i] = task.own;
                period[i] = task.period;
                told[i] = task.phase;
                common = leastCommonMultiple(common, task.period);
            }
            end = (int) (ROUNDS * common);
        }

        private static long leastCommonMultiple(long one, long other) {
            long multiple = one;
            for (int i = 0; i < MOST_PERIOD && multiple % Math.max(other, 1) != 0; i++) {
                multiple += one;
            }
            return multiple;
        }

        /** The phases of a way: a digit for each task without a told one, in the base of its PERIOD. */
        private void start(long way) {
            long digits = way;
            for (int i = 0; i < count; i++) {
                if (told[i] == Task.ANY_PHASE) {
                    long rest = whole(digits, period[i]);
                    oldest[i] = digits - rest * period[i];
                    digits = rest;
                } else {
                    oldest[i] = told[i];
                }
                left[i] = own[i];
            }
        }

        private void run() {
            for (int time = 0; time < MOST_TIME && hasMore(); time++) {
                int chosen = chosenAt(time);
                if (chosen >= 0) {
                    work(chosen, time);
                }
            }
        }

        private boolean hasMore() {
            for (int i = 0; i < count; i++) {
                if (oldest[i] < end) {
                    return true;
                }
            }
            return false;
        }

        private int chosenAt(int time) {
            int chosen = NONE;
            for (int i = 0; i < count; i++) {
                if (oldest[i] <= time && (chosen < 0 || goesBefore(i, chosen))) {
                    chosen = i;
                }
            }
            return chosen;
        }

        /**
         * Whether the task of the greater number goes first. An activation that has begun was the
         * first to come of its RANK, and is so until its end: that is how who ran goes on.
         */
        private boolean goesBefore(int later, int earlier) {
            if (rank[later] != rank[earlier]) {
                return rank[later] > rank[earlier];
            }
            return oldest[later] < oldest[earlier];
        }

        private void work(int who, int time) {
            left[who]--;
            if (left[who] == 0) {
                if (oldest[who] < end) {
                    longest[who] = Math.max(longest[who], time + 1 - oldest[who]);
                }
                oldest[who] += period[who];
                left[who] = own[who];
            }
        }
    }
}
