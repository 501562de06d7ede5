import java.util.ArrayList;
import java.util.List;

/**
 * The document's sums in their slowest and plainest form: spans are sought one microsecond after
 * the other, and every activation of a run is an object. It refuses nothing: it is told what the
 * program took.
 */
final class Model {
    static final long NONE = -1;

    static final class Part {
        long own;
        long period;
        int rank = 256;
        long jitter;
        long spin;
        long inner = 1;
        long together = 1;
        long phase = -1;
        final List<int[]> sections = new ArrayList<>();

        Part(long own, long period) {
            this.own = own;
            this.period = period;
        }

        long cost() {
            return own + spin;
        }

        long within(long d) {
            return Math.min(ceiling(d, inner), together * ceiling(d + jitter, period));
        }

        private static long ceiling(long amount, long by) {
            return amount / by + (amount % by == 0 ? 0 : 1);
        }

        long later(long q) {
            return Math.max(0, Math.max(q * inner, Math.floorDiv(q, together) * period - jitter));
        }
    }

    final List<Part> tasks = new ArrayList<>();
    final List<Part> interrupts = new ArrayList<>();

    /** Of the last answer() that was not NONE. */
    long reasonTurn;
    long reasonSpan;

    Part task(int number) {
        return tasks.get(number - 1);
    }

    int ceiling(int resource) {
        int greatest = -1;
        for (Part task : tasks) {
            for (int[] section : task.sections) {
                if (section[0] == resource) {
                    greatest = Math.max(greatest, task.rank);
                }
            }
        }
        return greatest;
    }

    long blocking(Part task) {
        long greatest = 0;
        for (Part other : tasks) {
            for (int[] section : other.sections) {
                if (other.rank < task.rank && ceiling(section[0]) >= task.rank) {
                    greatest = Math.max(greatest, section[1]);
                }
            }
        }
        return greatest;
    }

    List<Part> above(Part task) {
        List<Part> parts = new ArrayList<>();
        for (Part other : tasks) {
            if (other != task && other.rank >= task.rank) {
                parts.add(other);
            }
        }
        parts.addAll(interrupts);
        return parts;
    }

    long span(Part task, long q, long from, long blocking, List<Part> above) {
        for (long w = from; w <= 40000; w++) {
            long sum = (q + 1) * task.cost() + blocking;
            for (Part part : above) {
                sum += part.within(w) * part.cost();
            }
            if (sum == w) {
                return w;
            }
        }
        return NONE;
    }

    long answer(int number) {
        Part task = task(number);
        long blocking = blocking(task);
        List<Part> above = above(task);
        long greatest = NONE;
        long w = 0;
        for (long q = 0; q < 500; q++) {
            // each span is longer than the one before it
            w = span(task, q, w + 1, blocking, above);
            if (w == NONE) {
                return NONE;
            }
            if (w - task.later(q) > greatest) {
                greatest = w - task.later(q);
                reasonTurn = q;
                reasonSpan = w;
            }
            if (w <= task.later(q + 1)) {
                return greatest > task.period ? NONE : greatest;
            }
        }
        return NONE;
    }

    boolean allHaveAnswers() {
        for (int number = 1; number <= tasks.size(); number++) {
            if (answer(number) == NONE) {
                return false;
            }
        }
        return true;
    }

    long reason(int number, int row, int what) {
        if (number < 1 || number > tasks.size() || answer(number) == NONE) {
            return -1;
        }
        List<Part> above = above(task(number));
        if (row < 0 || row >= 2 + above.size()) {
            return -1;
        }
        if (what < 0 || what > 2) {
            return -2;
        }
        if (row == 0) {
            return what == 1 ? (reasonTurn + 1) * task(number).cost() : 0;
        }
        if (row == 1) {
            return what == 1 ? blocking(task(number)) : 0;
        }
        Part part = above.get(row - 2);
        if (what == 2) {
            return tasks.contains(part) ? tasks.indexOf(part) + 1 : -interrupts.indexOf(part) - 1;
        }
        return part.within(reasonSpan) * (what == 0 ? 1 : part.cost());
    }

    long busy(int side) {
        if (side == 0) {
            return load();
        }
        long have = 0;
        long greatest = 0;
        for (int number = 1; number <= tasks.size(); number++) {
            long answer = answer(number);
            have += answer == NONE ? 0 : 1;
            greatest = Math.max(greatest, answer);
        }
        return side == 1 ? have : greatest;
    }

    private long load() {
        long load = 0;
        for (Part part : tasks) {
            load += 1000000 * part.together * part.cost() / part.period;
        }
        for (Part part : interrupts) {
            load += 1000000 * part.cost() / part.period;
        }
        return load;
    }

    boolean plain(int number) {
        if (number < 1 || number > tasks.size() || tasks.size() > 3 || !interrupts.isEmpty()) {
            return false;
        }
        long product = 1;
        boolean told = false;
        for (Part task : tasks) {
            product *= task.period;
            told |= task.phase >= 0;
            if (task.jitter != 0 || task.together != 1 || task.spin != 0 || !task.sections.isEmpty()) {
                return false;
            }
        }
        if (product > 60 || load() > 1000000) {
            return false;
        }
        long answer = answer(number);
        if (answer == NONE) {
            return false;
        }
        long longest = longest(number, new ArrayList<>());
        return told ? longest <= answer : longest == answer;
    }

    private long longest(int number, List<Long> phases) {
        if (phases.size() == tasks.size()) {
            return run(number, phases);
        }
        Part task = tasks.get(phases.size());
        long greatest = 0;
        for (long phase = 0; phase < task.period; phase++) {
            if (task.phase < 0 || task.phase == phase) {
                phases.add(phase);
                greatest = Math.max(greatest, longest(number, phases));
                phases.remove(phases.size() - 1);
            }
        }
        return greatest;
    }

    private static final class Activation {
        Part task;
        long came;
        long left;
    }

    private long run(int number, List<Long> phases) {
        long end = 1;
        while (!dividedByAllPeriods(end)) {
            end++;
        }
        end *= 3;
        long greatest = 0;
        List<Activation> waiting = new ArrayList<>();
        for (long time = 0; time < end || waits(waiting, task(number), end); time++) {
            for (int i = 0; i < tasks.size(); i++) {
                Part task = tasks.get(i);
                if (time >= phases.get(i) && (time - phases.get(i)) % task.period == 0) {
                    Activation activation = new Activation();
                    activation.task = task;
                    activation.came = time;
                    activation.left = task.own;
                    waiting.add(activation);
                }
            }
            Activation chosen = chosen(waiting);
            if (chosen == null) {
                continue;
            }
            chosen.left--;
            if (chosen.left == 0) {
                waiting.remove(chosen);
                if (chosen.task == task(number) && chosen.came < end) {
                    greatest = Math.max(greatest, time + 1 - chosen.came);
                }
            }
        }
        return greatest;
    }

    private boolean dividedByAllPeriods(long number) {
        return tasks.stream().allMatch(task -> number % task.period == 0);
    }

    private static boolean waits(List<Activation> waiting, Part task, long before) {
        return waiting.stream().anyMatch(one -> one.task == task && one.came < before);
    }

    /**
     * Of the highest RANK who has begun and not ended; else the first, as the list is by time of
     * activation, then by number.
     */
    private static Activation chosen(List<Activation> waiting) {
        int highest = waiting.stream().mapToInt(one -> one.task.rank).max().orElse(-1);
        Activation first = null;
        for (Activation one : waiting) {
            if (one.task.rank == highest) {
                if (one.left < one.task.own) {
                    return one;
                }
                first = first == null ? one : first;
            }
        }
        return first;
    }
}
